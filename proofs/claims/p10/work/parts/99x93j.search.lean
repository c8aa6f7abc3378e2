/-! The matcher's search: it counts the ways, as far as it is asked to. -/
def ym_W (z : Int) (nr J : Int → Int) (o x2 : Int) (G S : Int → Int) : Prop := yc_w (yc_N nr) (yc_J z J) (yc_R G o) (yc_ls (zb x2) 8) (fun b => (S b).toNat) ∧ ∀ b : Nat, b < 8 → zb x2 b = true → 0 ≤ S b
def ym_C (z : Int) (nr J : Int → Int) (o x2 : Int) (G : Int → Int) : Nat := yc (yc_N nr) (yc_J z J) (yc_ls (zb x2) 8) (yc_R G o)
def ym_Vs (x5 : Int) (c : Nat → Nat) (v : Nat) : Prop := yc_sum (fun j => if zb x5 j = true then c j else 0) 24 = v
def ym_Cv (z : Int) (nr J : Int → Int) (o x2 : Int) (G : Int → Int) (v : Nat) : Prop := ym_C z nr J o x2 G = v
theorem ym_key {A B L1 L2 : Int} (h1 : 2 ≤ A) (h2 : B ≤ 1) (h3 : L1 ≤ 7) (h4 : 0 ≤ L2) (h5 : 8 * A - L1 ≤ 8 * B - L2) : False := by omega
theorem ym_class {x5 t : Int} {c : Nat → Nat} {m v : Nat} (z5 : z24 x5) (hm : m < 24) (hb : zb x5 m = true) (ht : zb t m = true) (hc : ∀ j, j < 24 → zb x5 j = true → zb t j = true → c j = c m) (hv : ym_Vs x5 c v) :
    ∃ Lk v' : Nat, zs_sum (zi_and x5 t) 24 = Lk ∧ 1 ≤ Lk ∧ Lk ≤ 24 ∧ v = Lk * c m + v' ∧ ym_Vs (zi_and x5 (zi_xor t (-1))) c v' := by
  obtain ⟨Lk, eL, eV⟩ := yc_cls (f := zb x5) (t := zb t) (c := c) (c0 := c m) (n := 24) hc
  have eL2 : zs_sum (zi_and x5 t) 24 = Lk := by
    rw [yn_sum (z24_and z5).1 (by have := (z24_and (b := t) z5).2; omega) 24, eL]
    exact yn_eq 24 fun j _ => by rw [zb_and]
  have l1 := yn_lt (f := fun _ => false) (g := fun j => zb x5 j && zb t j) (k := m) (by decide) (by rw [hb, ht]; rfl) 24 hm fun j _ h => (by cases h)
  have l0 := (yn_in (f := fun _ => false) 24).1
  have l2 := (yn_in (f := fun j => zb x5 j && zb t j) 24).2
  rw [← eL] at l1 l2
  have eV2 : yc_sum (fun j => if (zb x5 j && !zb t j) = true then c j else 0) 24 = yc_sum (fun j => if zb (zi_and x5 (zi_xor t (-1))) j = true then c j else 0) 24 := yc_sum_cg fun j hj => by rw [zb_and, zb_not (by omega)]
  rw [eV2, hv] at eV
  clear eL
  generalize yn_n (fun _ => false) 24 = q at l1 l0
  exact ⟨Lk, _, eL2, by clear eL2 eV eV2; omega, by clear eL2 eV eV2; omega, eV, rfl⟩
section YCS
variable {z : Int} {nr J T : Int → Int} {Fx : Nat → Prop} {sf : Nat → Nat}
/-- of twins that a name may be one does for all -/
theorem ym_same (H : ym_H nr J) {U : Nat → Prop} {o x2 x6 : Int} {G : Int → Int} (hI : ym_I z J Fx sf U o x2 G) {a : Nat} (ha : a < 8) (hxa : zb x2 a = true) (h6 : ∀ b : Nat, b < 8 → (zb x6 b = true ↔ zb x2 b = true ∧ b ≠ a)) (hmin : ∀ j : Nat, j < 8 → zb x2 j = true → ym_rk o G nr a ≤ ym_rk o G nr j) {p q : Nat} (hp : p < 24) (hq : q < 24) (hap : zb (G (o + a)) p = true) (haq : zb (G (o + a)) q = true) (ht : ym_tw z J p q) :
    yc (yc_N nr) (yc_J z J) (yc_ls (zb x6) 8) (yc_nw (yc_N nr) (yc_J z J) (yc_R G o) a q) = yc (yc_N nr) (yc_J z J) (yc_ls (zb x6) 8) (yc_nw (yc_N nr) (yc_J z J) (yc_R G o) a p) := by
  by_cases e : p = q
  · subst e; rfl
  obtain ⟨i1, i2, i3, i4⟩ := id hI
  have two : 2 ≤ yn_n (zb (G (o + a))) 24 := by
    have := yc_pig (S := id) (ns := [p, q]) (z := zb (G (o + a))) (by simp [e]) (fun b hb => by
      rcases List.mem_cons.mp hb with h | hb
      · subst h; exact ⟨hp, hap⟩
      · rcases List.mem_cons.mp hb with h | hb
        · subst h; exact ⟨hq, haq⟩
        · cases hb) fun b _ c _ hbc => hbc
    exact this
  have nofx : ∀ c : Nat, c < 8 → Fx c → ¬ zb x2 c = true := fun c c1 c2 c3 => by
    have one := (yn_one (f := zb (G (o + c))) (s := sf c) 24 fun j _ hj => i2 c c1 c3 c2 j hj).1
    have r := hmin c c1 c3
    have za := (i1 a ha hxa).1
    have zc := (i1 c c1 c3).1
    have n1 := (H.1 a ha).2.1
    have n2 := (zs_sum_in (t := nr (c : Int)) 24).1
    unfold ym_rk at r
    rw [yn_sum za.1 (by have := za.2; omega) 24, yn_sum zc.1 (by have := zc.2; omega) 24] at r
    exact ym_key two one n1 n2 r
  have us : ∀ c : Nat, c < 8 → Fx c → U (sf c) := fun c c1 c2 => (i3 c c1 c2).elim (fun w => absurd w (nofx c c1 c2)) id
  have np := ((i1 a ha hxa).2 p hap).2
  have nq := ((i1 a ha hxa).2 q haq).2
  have hsf : ∀ c : Nat, c < 8 → Fx c → sf c ≠ p ∧ sf c ≠ q := fun c c1 c2 => ⟨fun w => np (by rw [← w]; exact us c c1 c2), fun w => nq (by rw [← w]; exact us c c1 c2)⟩
  refine yc_twin (yc_J_s H) (yc_J_x H) hp hq (fun x hx xp xq => ?_) fun b hb => ?_
  · rw [Bool.eq_iff_iff, yc_J_t, yc_J_t]
    constructor
    · rintro ⟨q1, q2, q3, q4, q5⟩
      exact ⟨hq, q2, ht.2.1, q4, by rw [← ht.2.2 x hx q4 xp xq]; exact q5⟩
    · rintro ⟨q1, q2, q3, q4, q5⟩
      exact ⟨hp, q2, ht.1, q4, by rw [ht.2.2 x hx q4 xp xq]; exact q5⟩
  · obtain ⟨b1, b2⟩ := yc_ls_mem.mp hb
    obtain ⟨b3, b4⟩ := (h6 b b1).mp b2
    have nf : ¬ Fx b := fun w => nofx b b1 w b3
    show zb (G (o + b)) p = zb (G (o + b)) q
    rw [Bool.eq_iff_iff]
    exact ⟨i4 b b1 b3 nf p q hp hq ht np nq hsf, i4 b b1 b3 nf q p hq hp (ym_tw_s ht) nq np fun c c1 c2 => ⟨(hsf c c1 c2).2, (hsf c c1 c2).1⟩⟩
theorem ym_search (H : ym_H nr J) (hT : ∀ p : Nat, p < 24 → ∀ q, zb (T p) q = true ↔ q < 24 ∧ (q = p ∨ ym_tw z J p q)) : ∀ (n w : Nat) (x1 x2 x3 f2 : Int) (G S : Int → Int) (U : Nat → Prop), 0 ≤ x1 → x1 + yn_n (zb x2) 8 ≤ 8 → 8 - x1 < n → 1 ≤ x3 → x3 ≤ 10000 → z24 x2 → (∀ b, zb x2 b = true → b < 8) → ym_I z J Fx sf U (8 * x1) x2 G →
    zh_ok (zg_Matcher_search n w x1 x2 x3 f2 G nr T S J) fun o => o.1 = (if (ym_C z nr J (8 * x1) x2 G : Int) < x3 then (ym_C z nr J (8 * x1) x2 G : Int) else x3) ∧ (∀ q, q < 8 * x1 + 8 → o.2.2.1 q = G q) ∧ (∀ b : Nat, b < 8 → ¬ zb x2 b = true → o.2.2.2 b = S b) ∧ (x3 = 1 → 0 < o.1 → ym_W z nr J (8 * x1) x2 G o.2.2.2) := by
  intro n
  induction n with
  | zero => intro w x1 x2 x3 f2 G S U h1 h2 h3; have := (yn_in (f := zb x2) 8).1; omega
  | succ n ih =>
    intro w x1 x2 x3 f2 G S U h1 h2 h3 h4 h5 h6 h7 hI
    show zh_ok (zm_Matcher_search (zg_Matcher_search n) x1 x2 x3 f2 G nr T S J) _
    unfold zm_Matcher_search
    refine zh_ite (fun e0 => ?_) fun e0 => ?_
    · have el : yc_ls (zb x2) 8 = [] := yc_ls_0 fun b _ => by rw [e0]; exact zb_0
      have eC : ym_C z nr J (8 * x1) x2 G = 1 := by unfold ym_C; rw [el]; rfl
      refine zh_ret ⟨?_, fun _ _ => rfl, fun _ _ _ => rfl, fun _ _ => ⟨?_, fun b b1 b2 => ?_⟩⟩
      · rw [eC]
        show (1 : Int) = if ((1 : Nat) : Int) < x3 then ((1 : Nat) : Int) else x3
        split <;> omega
      · rw [el]; exact ⟨fun a ha => (by cases ha), fun a ha => (by cases ha)⟩
      · rw [e0, zb_0] at b2; cases b2
    obtain ⟨j0, j1, j2⟩ : ∃ j : Nat, j < 8 ∧ zb x2 j = true := by
      by_cases c : ∃ j : Nat, j < 24 ∧ zb x2 j = true
      · obtain ⟨j, _, j2⟩ := c; exact ⟨j, h7 j j2, j2⟩
      · exact absurd ((z24_z h6).mpr fun j hj => Bool.eq_false_iff.mpr fun w => c ⟨j, hj, w⟩) e0
    have h8 : x1 < 8 := by
      have l1 := yn_lt (f := fun _ => false) (g := zb x2) (k := j0) (by decide) j2 8 j1 fun j _ h => (by cases h)
      have l0 := (yn_in (f := fun _ => false) 8).1
      generalize yn_n (fun _ => false) 8 = q at l1 l0
      omega
    refine zh_ite (fun _ => ?_) fun w => absurd h8 w
    obtain ⟨i1, i2, i3, i4⟩ := id hI
    refine zh_bind (ym_tightest h1 h8 (fun j hj hx => (i1 j hj hx).1) (fun j hj => (H.1 j hj).1) ⟨j0, j1, j2⟩) fun r4 hr => ?_
    obtain ⟨⟨r0, r1⟩, hxa, hmin⟩ := hr
    obtain ⟨a, rfl⟩ : ∃ a : Nat, r4 = a := ⟨r4.toNat, by omega⟩
    have hxa : zb x2 a = true := hxa
    have ha : a < 8 := by omega
    rw [zi_w_id (x := x1 * 8) (by omega) (by omega), show x1 * 8 = 8 * x1 from Int.mul_comm _ _, zi_w_id (x := 8 * x1 + (a : Int)) (by omega) (by omega), zl_ci (a := 8 * x1 + (a : Int)) (by omega) (by omega)]
    obtain ⟨x6, e6⟩ : ∃ x6, x6 = zi_and x2 (zi_xor (zi_shl 1 (a : Int)) (-1)) := ⟨_, rfl⟩
    rw [← e6]
    have z6 : z24 x6 := by rw [e6]; exact z24_and h6
    have h66 : ∀ b : Nat, b < 24 → (zb x6 b = true ↔ zb x2 b = true ∧ b ≠ a) := fun b hb => by
      rw [e6, zb_clr (by omega) (by omega) hb, Bool.and_eq_true, Bool.not_eq_true', decide_eq_false_iff_not, Int.toNat_natCast]
    have h68 : ∀ b : Nat, b < 8 → (zb x6 b = true ↔ zb x2 b = true ∧ b ≠ a) := fun b hb => h66 b (by omega)
    have h6b : ∀ b, zb x6 b = true → b < 8 := fun b hb => by
      by_cases c : b < 24
      · exact h7 b ((h66 b c).mp hb).1
      · rw [z24_b z6 (by omega)] at hb; cases hb
    have hcnt : yn_n (zb x2) 8 = yn_n (zb x6) 8 + 1 := yn_add (k := a) (Bool.eq_false_iff.mpr fun w => ((h68 a ha).mp w).2 rfl) hxa 8 ha fun j hj hja => by
      rw [Bool.eq_iff_iff, h68 j hj]
      exact ⟨fun w => w.1, fun w => ⟨w, hja⟩⟩
    have h2n : x1 + 1 + yn_n (zb x6) 8 ≤ 8 := by
      rw [hcnt] at h2
      generalize yn_n (zb x6) 8 = q at h2 ⊢
      omega
    clear hcnt h2
    obtain ⟨o, eo⟩ : ∃ o, o = 8 * x1 := ⟨_, rfl⟩
    have eo2 : 8 * (x1 + 1) = o + 8 := by omega
    rw [← eo] at hI i1 i2 i4 hmin ⊢
    obtain ⟨c, ec⟩ : ∃ c : Nat → Nat, c = fun i => yc (yc_N nr) (yc_J z J) (yc_ls (zb x6) 8) (yc_nw (yc_N nr) (yc_J z J) (yc_R G o) a i) := ⟨_, rfl⟩
    have na : a ∉ yc_ls (zb x6) 8 := fun w => ((h68 a ha).mp (yc_ls_mem.mp w).2).2 rfl
    have lmem : ∀ b, b ∈ yc_ls (zb x2) 8 ↔ b ∈ a :: yc_ls (zb x6) 8 := fun b => by
      rw [List.mem_cons, yc_ls_mem, yc_ls_mem]
      constructor
      · rintro ⟨q1, q2⟩
        by_cases e : b = a
        · exact .inl e
        · exact .inr ⟨q1, (h68 b q1).mpr ⟨q2, e⟩⟩
      · rintro (e | ⟨q1, q2⟩)
        · subst e; exact ⟨ha, hxa⟩
        · exact ⟨q1, ((h68 b q1).mp q2).1⟩
    obtain ⟨C, eC⟩ : ∃ C, C = ym_C z nr J o x2 G := ⟨_, rfl⟩
    have hC : ym_Vs (G (o + a)) c C := by
      rw [eC, ec]
      exact (yc_set (yc_N_s H) (yc_J_s H) yc_ls_nd (List.nodup_cons.mpr ⟨na, yc_ls_nd⟩) lmem).symm
    rw [← eC]
    clear eC
    have za := (i1 a ha hxa).1
    refine zh_bind (Q := fun q => ((q.1 = (C : Int) ∧ q.1 < x3) ∨ (x3 ≤ q.1 ∧ x3 ≤ (C : Int))) ∧ (∀ p, p < o + 8 → q.2.2.1 p = G p) ∧ (∀ b : Nat, b < 8 → ¬ zb x2 b = true → q.2.2.2 b = S b) ∧ (x3 = 1 → 0 < q.1 → ym_W z nr J o x2 G q.2.2.2))
      (zh_loop (F := fun n2 i (s : Int × Int × Int × (Int → Int) × (Int → Int)) => zm_Matcher_search_l0 (zg_Matcher_search n) x1 x3 (a : Int) x6 nr T J n2 s.1 s.2.1 i s.2.2.1 s.2.2.2.1 s.2.2.2.2) (N := 24)
        (I := fun i s => ((z24 s.1 ∧ ∀ j : Nat, zb s.1 j = true → zb (G (o + a)) j = true ∧ i ≤ (j : Int)) ∧ ∃ w v : Nat, ym_Vs s.1 c v ∧ C = w + v ∧ ((s.2.1 = w ∧ (w : Int) < x3) ∨ (x3 ≤ s.2.1 ∧ x3 ≤ (C : Int)))) ∧ (∀ p, p < o + 8 → s.2.2.2.1 p = G p) ∧ (∀ b : Nat, b < 8 → ¬ zb x2 b = true → s.2.2.2.2 b = S b) ∧ (x3 = 1 → 0 < s.2.1 → ym_W z nr J o x2 G s.2.2.2.2))
        (fun n2 i s i0 i24 hs k => ?_) 24 0 (G (o + a), 0, f2, G, S) zi_fu (by decide) (by decide) (by decide) (by decide) ⟨⟨⟨za, fun j hj => ⟨hj, Int.natCast_nonneg j⟩⟩, 0, C, hC, (Nat.zero_add C).symm, .inl ⟨rfl, show (0 : Int) < x3 by omega⟩⟩, fun _ _ => rfl, fun _ _ _ => rfl, fun _ w => absurd w (Int.lt_irrefl 0)⟩) fun q hq => ?_
    · obtain ⟨x5, x7, f, g, S2⟩ := s
      obtain ⟨⟨⟨z5, b5⟩, wn, vn, hv, ew, hw⟩, hg, hS, hW⟩ := hs
      have z5 : z24 x5 := z5
      have b5 : ∀ j : Nat, zb x5 j = true → zb (G (o + a)) j = true ∧ i ≤ (j : Int) := b5
      have hv : ym_Vs x5 c vn := hv
      have hw : (x7 = wn ∧ (wn : Int) < x3) ∨ (x3 ≤ x7 ∧ x3 ≤ (C : Int)) := hw
      have hg : ∀ p, p < o + 8 → g p = G p := hg
      have hS : ∀ b : Nat, b < 8 → ¬ zb x2 b = true → S2 b = S b := hS
      show zh_ok (zm_Matcher_search_l0_b (zg_Matcher_search n) x1 x3 (a : Int) x6 nr T J (zm_Matcher_search_l0 (zg_Matcher_search n) x1 x3 (a : Int) x6 nr T J n2) x5 x7 i f g S2) _
      unfold zm_Matcher_search_l0_b
      refine zh_ite (fun hi => ?_) fun hi => zh_ret ⟨?_, hg, hS, hW⟩
      · refine zh_ite (fun h73 => ?_) fun h73 => zh_ret ⟨.inr (hw.elim (fun w => absurd w.2 (by omega)) id), hg, hS, hW⟩
        obtain ⟨w1, w2⟩ : x7 = wn ∧ (wn : Int) < x3 := hw.elim id fun w => absurd w.1 (by omega)
        obtain ⟨m, rfl⟩ : ∃ m : Nat, i = m := ⟨i.toNat, by omega⟩
        have hm : m < 24 := by omega
        rw [zi_w_id (x := (m : Int) + 1) (by omega) (by omega)]
        by_cases hb : zb x5 m = true
        · rw [zb_bit1 (t := x5) (i := (m : Int)) i0 (by omega) hb, if_neg (show ¬ (1 : Int) = 0 by decide), zl_ci (n := 24) i0 (by omega), ze_bc (z24_and z5), zl_b, zl_ci (n := 8) (a := (a : Int)) (by omega) (by omega), zi_w_id (x := x1 + 1) (by omega) (by omega), zi_w_id (x := x3 - x7) (by omega) (by omega)]
          have ram := (b5 m hb).1
          have zm := (i1 a ha hxa).2 m ram
          -- the class of m
          obtain ⟨Lk, v', eL2, hL1, hL2, eV, hv'⟩ := ym_class z5 hm hb ((hT m hm m).mpr ⟨hm, .inl rfl⟩) (fun j hj q1 q2 => by
            rcases ((hT m hm j).mp q2).2 with e | e
            · rw [e]
            · rw [ec]
              exact ym_same H hI ha hxa h68 hmin hm hj ram (b5 j q1).1 e) hv
          rw [eL2]
          clear eL2
          obtain ⟨x5n, e5n⟩ : ∃ v, v = zi_and x5 (zi_xor (T (m : Int)) (-1)) := ⟨_, rfl⟩
          rw [← e5n] at hv' ⊢
          have z5n : z24 x5n := by rw [e5n]; exact z24_and z5
          have b5n : ∀ j : Nat, j < 24 → zb x5n j = (zb x5 j && !zb (T (m : Int)) j) := fun j hj => by rw [e5n, zb_and, zb_not (by omega)]
          have b5m : ∀ j : Nat, zb x5n j = true → zb (G (o + a)) j = true ∧ (m : Int) + 1 ≤ (j : Int) := fun j hj => by
            have hj24 : j < 24 := by
              by_cases e : j < 24
              · exact e
              · rw [z24_b z5n (by omega)] at hj; cases hj
            rw [b5n j hj24, Bool.and_eq_true, Bool.not_eq_true'] at hj
            have q := b5 j hj.1
            refine ⟨q.1, ?_⟩
            by_cases e : j = m
            · subst e
              have : zb (T (j : Int)) j = true := (hT j hm j).mpr ⟨hm, .inl rfl⟩
              rw [this] at hj; exact absurd hj.2 (by decide)
            · omega
          have hS3 : ∀ b : Nat, b < 8 → ¬ zb x2 b = true → zv_up S2 (a : Int) (m : Int) b = S b := fun b b1 b2 => by
            rw [zv_up_n (by
              intro e
              have : b = a := by omega
              subst this; exact b2 hxa)]
            exact hS b b1 b2
          -- a dead end
          have dead : c m = 0 → ∀ f' g', (∀ p, p < o + 8 → g' p = G p) → zh_ok (zm_Matcher_search_l0 (zg_Matcher_search n) x1 x3 (a : Int) x6 nr T J n2 x5n x7 ((m : Int) + 1) f' g' (zv_up S2 (a : Int) (m : Int))) _ := fun hc f' g' hg' => k (x5n, x7, f', g', zv_up S2 (a : Int) (m : Int)) hi ⟨⟨⟨z5n, b5m⟩, wn, v', hv', by rw [ew, eV, hc, Nat.mul_zero, Nat.zero_add], .inl ⟨w1, w2⟩⟩, hg', hS3, fun q1 q2 => by
            have q2 : 0 < x7 := q2
            omega⟩
          -- a way on
          have on : ∀ f' g', (∀ p, p < o + 8 → g' p = G p) → ym_I z J Fx sf (fun j => U j ∨ j = m) (o + 8) x6 g' → ym_Cv z nr J (o + 8) x6 g' (c m) → (∀ b : Nat, b < 8 → zb x6 b = true → ∀ j, zb (g' (o + 8 + b)) j = true → zb (ym_nw nr J a m (G (o + b)) b) j = true) →
              zh_ok ((zg_Matcher_search n 0 (x1 + 1) x6 (x3 - x7) f' g' nr T (zv_up S2 (a : Int) (m : Int)) J).bind fun r15 => (zm_Matcher_search_l0 (zg_Matcher_search n) x1 x3 (a : Int) x6 nr T J n2 x5n (zi_w (x7 + (zi_w ((Lk : Int) * r15.1)))) ((m : Int) + 1) r15.2.1 r15.2.2.1 r15.2.2.2)) _ := fun f' g' hg' hI' hC' hsub => by
            refine zh_bind (ih 0 (x1 + 1) x6 (x3 - x7) f' g' (zv_up S2 (a : Int) (m : Int)) (fun j => U j ∨ j = m) (by omega) h2n (by omega) (by omega) (by omega) z6 h6b (by rw [eo2]; exact hI')) fun r hr => ?_
            unfold ym_Cv at hC'
            rw [eo2, hC'] at hr
            clear hC'
            obtain ⟨q1, q2, q3, q4⟩ := hr
            have lo : 0 ≤ r.1 ∧ r.1 ≤ x3 - x7 := by
              rw [q1]; split <;> omega
            have hmul : (Lk : Int) * r.1 ≤ 24 * r.1 := Int.mul_le_mul_of_nonneg_right (by omega) lo.1
            have hmul0 : 0 ≤ (Lk : Int) * r.1 := Int.mul_nonneg (by omega) lo.1
            have hmul1 : r.1 ≤ (Lk : Int) * r.1 := by
              have := Int.mul_le_mul_of_nonneg_right (show (1 : Int) ≤ (Lk : Int) by omega) lo.1
              rwa [Int.one_mul] at this
            rw [zi_w_id (x := (Lk : Int) * r.1) (by omega) (by omega), zi_w_id (x := x7 + (Lk : Int) * r.1) (by omega) (by omega)]
            refine k (x5n, x7 + (Lk : Int) * r.1, r.2.1, r.2.2.1, r.2.2.2) hi ⟨⟨⟨z5n, b5m⟩, wn + Lk * c m, v', hv', by rw [ew, eV, Nat.add_assoc], ?_⟩, fun p hp => by rw [q2 p (by omega)]; exact hg' p hp, fun b b1 b2 => ?_, fun e1 e2 => ?_⟩
            · show (x7 + (Lk : Int) * r.1 = ((wn + Lk * c m : Nat) : Int) ∧ ((wn + Lk * c m : Nat) : Int) < x3) ∨ (x3 ≤ x7 + (Lk : Int) * r.1 ∧ x3 ≤ (C : Int))
              have eN : ((wn + Lk * c m : Nat) : Int) = (wn : Int) + (Lk : Int) * (c m : Int) := by rw [Int.natCast_add, Int.natCast_mul]
              have hCw : wn + Lk * c m ≤ C := by rw [ew, eV, ← Nat.add_assoc]; exact Nat.le_add_right _ _
              have hm2 : (c m : Int) ≤ (Lk : Int) * (c m : Int) := by
                have := Int.mul_le_mul_of_nonneg_right (show (1 : Int) ≤ (Lk : Int) by omega) (show (0 : Int) ≤ (c m : Int) by omega)
                rwa [Int.one_mul] at this
              by_cases cc : (c m : Int) < x3 - x7
              · rw [if_pos cc] at q1
                have e9 : x7 + (Lk : Int) * r.1 = ((wn + Lk * c m : Nat) : Int) := by rw [q1, w1, eN]
                by_cases c3 : ((wn + Lk * c m : Nat) : Int) < x3
                · exact .inl ⟨e9, c3⟩
                · exact .inr ⟨by rw [e9]; exact Int.not_lt.mp c3, Int.le_trans (Int.not_lt.mp c3) (Int.ofNat_le.mpr hCw)⟩
              · rw [if_neg cc] at q1
                refine .inr ⟨by omega, Int.le_trans ?_ (Int.ofNat_le.mpr hCw)⟩
                show x3 ≤ ((wn + Lk * c m : Nat) : Int)
                rw [eN]
                omega
            · show r.2.2.2 b = S b
              rw [q3 b b1 fun w => b2 ((h68 b b1).mp w).1]
              exact hS3 b b1 b2
            · have e2 : 0 < x7 + (Lk : Int) * r.1 := e2
              have r1 : 0 < r.1 := by
                by_cases z : r.1 = 0
                · rw [z, Int.mul_zero] at e2; omega
                · omega
              obtain ⟨W1, W2⟩ := q4 (by omega) r1
              show ym_W z nr J o x2 G r.2.2.2
              have ea : r.2.2.2 (a : Int) = (m : Int) := by
                rw [q3 a ha fun w => ((h68 a ha).mp w).2 rfl, zv_up_s]
              have eat : (r.2.2.2 ((a : Nat) : Int)).toNat = m := by rw [ea, Int.toNat_natCast]
              refine ⟨yc_w_mem (fun b hb => (lmem b).mp hb) ((yc_w_cons (yc_N_s H) (yc_J_s H) na).mpr ?_), fun b b1 b2 => ?_⟩
              · show (r.2.2.2 ((a : Nat) : Int)).toNat < 24 ∧ yc_R G o a (r.2.2.2 ((a : Nat) : Int)).toNat = true ∧ yc_w (yc_N nr) (yc_J z J) (yc_nw (yc_N nr) (yc_J z J) (yc_R G o) a (r.2.2.2 ((a : Nat) : Int)).toNat) (yc_ls (zb x6) 8) fun b => (r.2.2.2 b).toNat
                rw [eat]
                refine ⟨hm, ram, yc_w_row W1 fun b hb => ?_⟩
                obtain ⟨b1, b2⟩ := yc_ls_mem.mp hb
                have hrow := hsub b b1 b2 _ (W1.1 b hb).2
                have zrow := (i1 b b1 ((h68 b b1).mp b2).1)
                obtain ⟨p1, p2, p3⟩ := (ym_nw_t zrow.1 hm).mp hrow
                refine yc_nw_t.mpr ⟨p1, p2, fun w => yc_J_t.mpr ⟨hm, (W1.1 b hb).1, zm.1, (zrow.2 _ p1).1, p3 (yc_N_t.mp w).2.2⟩⟩
              · by_cases e : b = a
                · subst e; rw [ea]; omega
                · exact W2 b b1 ((h68 b b1).mpr ⟨b2, e⟩)
          -- narrow
          refine zh_bind (ym_narrow (x2 := x6) (G := g) (nr := nr) (J := J) h1 h8 r0 r1 i0 (by omega)) fun r12 h12 => ?_
          rw [← eo] at h12
          obtain ⟨n1, n2⟩ := h12
          have n1 : ∀ p, p < o + 8 → r12.2 p = G p := fun p hp => by rw [n1 p hp]; exact hg p hp
          have cell : ∀ b : Nat, b < 8 → g (o + (b : Int)) = G (o + (b : Int)) := fun b hb => hg _ (by omega)
          refine zh_ite (fun hz => ?_) fun hz => ?_
          · rcases n2 with ⟨q1, -⟩ | ⟨-, b, b0, b1, b2, b3⟩
            · rw [q1] at hz; exact absurd hz (by decide)
            · obtain ⟨b, rfl⟩ : ∃ b' : Nat, b = b' := ⟨b.toNat, by omega⟩
              have b2 : zb x6 b = true := b2
              have b1 : b < 8 := by omega
              rw [cell b b1] at b3
              refine dead ?_ _ _ n1
              rw [ec]
              refine yc_empty (yc_N_s H) (yc_J_s H) yc_ls_nd (yc_ls_mem.mpr ⟨b1, b2⟩) fun j hj => Bool.eq_false_iff.mpr fun w => ?_
              obtain ⟨p1, p2, p3⟩ := yc_nw_t.mp w
              have hj2 : zb (ym_nw nr J a m (G (o + b)) b) j = true := (ym_nw_t (i1 b b1 ((h68 b b1).mp b2).1).1 hm).mpr ⟨p1, p2, fun w => (yc_J_t.mp (p3 (yc_N_t.mpr ⟨ha, b1, w⟩))).2.2.2.2⟩
              rw [b3, zb_0] at hj2; cases hj2
          · rcases n2 with ⟨-, n2⟩ | ⟨q1, -⟩
            · have hG1 : ∀ b : Nat, b < 8 → zb x6 b = true → r12.2 (o + 8 + b) = ym_nw nr J a m (G (o + b)) b := fun b b1 b2 => by
                rw [n2 b (by omega) (by omega) b2, cell b b1]
              have hI1 : ym_I z J Fx sf (fun j => U j ∨ j = m) (o + 8) x6 r12.2 := ym_I_nw H hI ha hxa hm ram h68 hG1
              have hC1 : ym_Cv z nr J (o + 8) x6 r12.2 (c m) := by
                rw [ec]
                refine yc_cg fun b hb j hj => ?_
                obtain ⟨b1, b2⟩ := yc_ls_mem.mp hb
                have zrow := i1 b b1 ((h68 b b1).mp b2).1
                show zb (r12.2 (o + 8 + b)) j = _
                rw [hG1 b b1 b2, Bool.eq_iff_iff, ym_nw_t zrow.1 hm, yc_nw_t]
                constructor
                · rintro ⟨p1, p2, p3⟩
                  exact ⟨p1, p2, fun w => yc_J_t.mpr ⟨hm, hj, zm.1, (zrow.2 j p1).1, p3 (yc_N_t.mp w).2.2⟩⟩
                · rintro ⟨p1, p2, p3⟩
                  exact ⟨p1, p2, fun w => (yc_J_t.mp (p3 (yc_N_t.mpr ⟨ha, b1, w⟩))).2.2.2.2⟩
              have hsub1 : ∀ b : Nat, b < 8 → zb x6 b = true → ∀ j, zb (r12.2 (o + 8 + b)) j = true → zb (ym_nw nr J a m (G (o + b)) b) j = true := fun b b1 b2 j hj => by rwa [hG1 b b1 b2] at hj
              refine zh_ite (fun _ => on f r12.2 n1 hI1 hC1 hsub1) fun _ => ?_
              refine zh_bind (ym_agree (K := fun g' => (∀ p, p < o + 8 → g' p = G p) ∧ ym_I z J Fx sf (fun j => U j ∨ j = m) (o + 8) x6 g' ∧ ym_Cv z nr J (o + 8) x6 g' (c m) ∧ ∀ b : Nat, b < 8 → zb x6 b = true → ∀ j, zb (g' (o + 8 + b)) j = true → zb (ym_nw nr J a m (G (o + b)) b) j = true) (x1 := x1 + 1) (x2 := x6) (nr := nr) (G := r12.2) (J := J) (by omega) (by omega) (fun i hi => (H.2.2.1 i hi).1) (fun g' hK j hj hx => ?_) (fun g' j v hK hj hx hv hq => ?_) ⟨n1, hI1, hC1, hsub1⟩) fun r16 h16 => ?_
              · rw [eo2]; exact (hK.2.1.1 j hj hx).1
              · rw [eo2] at hq ⊢
                obtain ⟨K1, K2, K3, K4⟩ := hK
                obtain ⟨A1, A2⟩ := ym_I_ag H K2 hj hx hv hq
                refine ⟨fun p hp => by rw [zv_up_n (by omega)]; exact K1 p hp, A1, A2.trans K3, fun b b1 b2 j2 hj2 => ?_⟩
                by_cases e : b = j
                · subst e
                  rw [zv_up_s] at hj2
                  exact K4 b b1 b2 j2 ((hq j2).mp hj2).1
                · rw [zv_up_n (by omega)] at hj2
                  exact K4 b b1 b2 j2 hj2
              · obtain ⟨⟨K1, K2, K3, K4⟩, h16⟩ := h16
                refine zh_ite (fun hz2 => ?_) fun hz2 => on f r16.2 K1 K2 K3 K4
                rcases h16 with q1 | ⟨-, j, j1, j2, -, -, K5, -⟩
                · rw [q1] at hz2; exact absurd hz2 (by decide)
                · refine dead ?_ _ _ K1
                  rw [← show _ = c m from K5]
                  refine yc_empty (yc_N_s H) (yc_J_s H) yc_ls_nd (yc_ls_mem.mpr ⟨j1, j2⟩) fun q hq => ?_
                  show zb (zv_up r16.2 (8 * (x1 + 1) + (j : Int)) 0 (o + 8 + (j : Int))) q = false
                  rw [eo2, zv_up_s]; exact zb_0
            · exact absurd q1 hz
        · rw [zb_bit0 (t := x5) (i := (m : Int)) i0 (by omega) hb, if_pos rfl]
          refine k (x5, x7, f, g, S2) hi ⟨⟨⟨z5, fun j hj => ⟨(b5 j hj).1, ?_⟩⟩, wn, vn, hv, ew, hw⟩, hg, hS, hW⟩
          have := (b5 j hj).2
          by_cases e : j = m
          · subst e; exact absurd hj hb
          · omega
      · have ez : vn = 0 := by
          unfold ym_Vs at hv
          rw [yc_sum_cg (g := fun _ => 0) fun j hj => if_neg fun w => by have := (b5 j w).2; omega, yc_sum_0 24] at hv
          exact hv.symm
        clear hv
        rw [ez] at ew
        show ((x7 = (C : Int) ∧ x7 < x3) ∨ (x3 ≤ x7 ∧ x3 ≤ (C : Int)))
        rcases hw with ⟨w1, w2⟩ | w
        · exact .inl ⟨by omega, by omega⟩
        · exact .inr w
    · obtain ⟨q1, q2, q3, q4⟩ := hq
      rw [ze_Math_min, zl_b]
      refine zh_ret ⟨?_, q2, q3, fun e1 e2 => q4 e1 ?_⟩
      · show (if x3 < q.1 then x3 else q.1) = if (C : Int) < x3 then (C : Int) else x3
        rcases q1 with ⟨c1, c2⟩ | ⟨c1, c2⟩
        · rw [if_neg (by omega), if_pos (by omega), c1]
        · rw [if_neg (show ¬ (C : Int) < x3 by omega)]
          split <;> omega
      · have e2 : 0 < (if x3 < q.1 then x3 else q.1) := e2
        split at e2 <;> omega
end YCS
