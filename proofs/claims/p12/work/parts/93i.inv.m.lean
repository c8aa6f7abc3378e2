/-! 93i.inv, 93j.search, 93k.refer, 93l.first, 93m.told, 93n.where, 93o.when, 93p.gosper, 93q.hidden -/
section
/-! What holds while names are settled. -/
def yc_N (nr : Int → Int) (a b : Nat) : Bool := (decide (a < 8) && decide (b < 8)) && zb (nr a) b
def yc_J (z : Int) (J : Int → Int) (i j : Nat) : Bool := (decide (i < 24) && decide (j < 24)) && ((zb z i && zb z j) && zb (J i) j)
def yc_R (G : Int → Int) (o : Int) (b j : Nat) : Bool := zb (G (o + b)) j
def ym_H (nr J : Int → Int) : Prop := (∀ a : Nat, a < 8 → z24 (nr a) ∧ zs_sum (nr a) 24 ≤ 7 ∧ zb (nr a) a = false) ∧ (∀ a b : Nat, a < 8 → b < 8 → zb (nr a) b = zb (nr b) a) ∧ (∀ i : Nat, i < 24 → z24 (J i) ∧ zb (J i) i = false) ∧ ∀ i j : Nat, i < 24 → j < 24 → zb (J i) j = zb (J j) i
section YCI
variable {z : Int} {nr J : Int → Int}
theorem yc_N_t {a b : Nat} : yc_N nr a b = true ↔ a < 8 ∧ b < 8 ∧ zb (nr a) b = true := by
  unfold yc_N
  rw [Bool.and_eq_true, Bool.and_eq_true, decide_eq_true_iff, decide_eq_true_iff]
  exact ⟨fun ⟨⟨p, q⟩, r⟩ => ⟨p, q, r⟩, fun ⟨p, q, r⟩ => ⟨⟨p, q⟩, r⟩⟩
theorem yc_J_t {i j : Nat} : yc_J z J i j = true ↔ i < 24 ∧ j < 24 ∧ zb z i = true ∧ zb z j = true ∧ zb (J i) j = true := by
  unfold yc_J
  rw [Bool.and_eq_true, Bool.and_eq_true, Bool.and_eq_true, Bool.and_eq_true, decide_eq_true_iff, decide_eq_true_iff]
  exact ⟨fun ⟨⟨p, q⟩, ⟨r, s⟩, t⟩ => ⟨p, q, r, s, t⟩, fun ⟨p, q, r, s, t⟩ => ⟨⟨p, q⟩, ⟨r, s⟩, t⟩⟩
theorem yc_N_s (H : ym_H nr J) (a b : Nat) : yc_N nr a b = yc_N nr b a := by
  rw [Bool.eq_iff_iff, yc_N_t, yc_N_t]
  constructor
  · rintro ⟨p, q, r⟩; exact ⟨q, p, by rw [← H.2.1 a b p q]; exact r⟩
  · rintro ⟨p, q, r⟩; exact ⟨q, p, by rw [← H.2.1 b a p q]; exact r⟩
theorem yc_J_s (H : ym_H nr J) (i j : Nat) : yc_J z J i j = yc_J z J j i := by
  rw [Bool.eq_iff_iff, yc_J_t, yc_J_t]
  constructor
  · rintro ⟨p, q, r, s, t⟩; exact ⟨q, p, s, r, by rw [← H.2.2.2 i j p q]; exact t⟩
  · rintro ⟨p, q, r, s, t⟩; exact ⟨q, p, s, r, by rw [← H.2.2.2 j i p q]; exact t⟩
theorem yc_J_x (H : ym_H nr J) (i : Nat) : yc_J z J i i = false := by
  rw [Bool.eq_false_iff]
  intro h
  obtain ⟨p, -, -, -, t⟩ := yc_J_t.mp h
  rw [(H.2.2.1 i p).2] at t
  cases t
theorem ym_nw_t {a i b q : Nat} {v : Int} (hv : z24 v) (hi : i < 24) : zb (ym_nw nr J a i v b) q = true ↔ zb v q = true ∧ q ≠ i ∧ (zb (nr a) b = true → zb (J i) q = true) := by
  by_cases hq : q < 24
  · rw [ym_nw_b (by omega) (by omega) hq]
    show (zb v q && (!decide (q = i) && (!zb (nr a) b || zb (J i) q))) = true ↔ _
    by_cases e : q = i
    · rw [decide_eq_true e, Bool.not_true, Bool.false_and, Bool.and_false]
      exact ⟨fun h => (by cases h), fun h => absurd e h.2.1⟩
    · rw [decide_eq_false e, Bool.not_false, Bool.true_and]
      cases zb v q <;> cases zb (nr a) b <;> cases zb (J i) q <;> simp [e]
  · rw [z24_b (ym_nw_24 hv) (by omega), z24_b hv (by omega)]
    exact ⟨fun h => (by cases h), fun h => (by cases h.1)⟩
def ym_I (z : Int) (J : Int → Int) (Fx : Nat → Prop) (sf : Nat → Nat) (U : Nat → Prop) (o x2 : Int) (G : Int → Int) : Prop :=
  (∀ b : Nat, b < 8 → zb x2 b = true → z24 (G (o + b)) ∧ ∀ j, zb (G (o + b)) j = true → zb z j = true ∧ ¬ U j) ∧
  (∀ b : Nat, b < 8 → zb x2 b = true → Fx b → ∀ j, zb (G (o + b)) j = true → j = sf b) ∧
  (∀ b : Nat, b < 8 → Fx b → zb x2 b = true ∨ U (sf b)) ∧
  ∀ b : Nat, b < 8 → zb x2 b = true → ¬ Fx b → ∀ p q : Nat, p < 24 → q < 24 → ym_tw z J p q → ¬ U p → ¬ U q → (∀ c : Nat, c < 8 → Fx c → sf c ≠ p ∧ sf c ≠ q) → zb (G (o + b)) p = true → zb (G (o + b)) q = true
variable {Fx : Nat → Prop} {sf : Nat → Nat} {U : Nat → Prop} {o x2 : Int} {G : Int → Int}
theorem ym_I_nw (H : ym_H nr J) (hI : ym_I z J Fx sf U o x2 G) {a i : Nat} (ha : a < 8) (hxa : zb x2 a = true) (hi : i < 24) (hra : zb (G (o + a)) i = true) {x6 : Int} (h6 : ∀ b : Nat, b < 8 → (zb x6 b = true ↔ zb x2 b = true ∧ b ≠ a)) {G1 : Int → Int} (hG : ∀ b : Nat, b < 8 → zb x6 b = true → G1 (o + 8 + b) = ym_nw nr J a i (G (o + b)) b) : ym_I z J Fx sf (fun j => U j ∨ j = i) (o + 8) x6 G1 := by
  obtain ⟨i1, i2, i3, i4⟩ := hI
  have hzi := (i1 a ha hxa).2 i hra
  refine ⟨fun b hb hx => ?_, fun b hb hx hf j hj => ?_, fun b hb hf => ?_, fun b hb hx hf p q hp hq ht hup huq hc hbp => ?_⟩
  · obtain ⟨x1, x3⟩ := (h6 b hb).mp hx
    obtain ⟨y1, y2⟩ := i1 b hb x1
    rw [hG b hb hx]
    refine ⟨ym_nw_24 y1, fun j hj => ?_⟩
    obtain ⟨q1, q2, -⟩ := (ym_nw_t y1 hi).mp hj
    exact ⟨(y2 j q1).1, fun w => w.elim (y2 j q1).2 q2⟩
  · obtain ⟨x1, x3⟩ := (h6 b hb).mp hx
    rw [hG b hb hx] at hj
    exact i2 b hb x1 hf j ((ym_nw_t (i1 b hb x1).1 hi).mp hj).1
  · rcases i3 b hb hf with h | h
    · by_cases e : b = a
      · subst e
        exact .inr (.inr (i2 b hb h hf i hra).symm)
      · exact .inl ((h6 b hb).mpr ⟨h, e⟩)
    · exact .inr (.inl h)
  · obtain ⟨x1, x3⟩ := (h6 b hb).mp hx
    obtain ⟨y1, y2⟩ := i1 b hb x1
    rw [hG b hb hx] at hbp ⊢
    obtain ⟨q1, q2, q3⟩ := (ym_nw_t y1 hi).mp hbp
    refine (ym_nw_t y1 hi).mpr ⟨i4 b hb x1 hf p q hp hq ht (fun w => hup (.inl w)) (fun w => huq (.inl w)) hc q1, fun w => huq (.inr w), fun w => ?_⟩
    have hip : i ≠ p := fun e => hup (.inr e.symm)
    have hiq : i ≠ q := fun e => huq (.inr e.symm)
    rw [H.2.2.2 i q hi hq, ← ht.2.2 i hi hzi.1 hip hiq, H.2.2.2 p i hp hi]
    exact q3 w
theorem ym_I_ag (H : ym_H nr J) (hI : ym_I z J Fx sf U o x2 G) {j : Nat} {v : Int} (hj : j < 8) (hxj : zb x2 j = true) (hv : z24 v) (hb : ∀ q, zb v q = true ↔ zb (G (o + j)) q = true ∧ ∀ b : Nat, b < 8 → zb (nr j) b = true → zb x2 b = true → ∃ r : Nat, r < 24 ∧ zb (G (o + b)) r = true ∧ zb (J r) q = true) :
    ym_I z J Fx sf U o x2 (zv_up G (o + j) v) ∧ yc (yc_N nr) (yc_J z J) (yc_ls (zb x2) 8) (yc_R (zv_up G (o + j) v) o) = yc (yc_N nr) (yc_J z J) (yc_ls (zb x2) 8) (yc_R G o) := by
  obtain ⟨i1, i2, i3, i4⟩ := hI
  have sub : ∀ b : Nat, ∀ q, zb (zv_up G (o + j) v (o + b)) q = true → zb (G (o + b)) q = true := fun b q hq => by
    by_cases e : b = j
    · subst e; rw [zv_up_s] at hq; exact ((hb q).mp hq).1
    · rwa [zv_up_n (by omega)] at hq
  refine ⟨⟨fun b hb1 hx => ⟨?_, fun q hq => (i1 b hb1 hx).2 q (sub b q hq)⟩, fun b hb1 hx hf q hq => i2 b hb1 hx hf q (sub b q hq), i3, fun b hb1 hx hf p q hp hq ht hup huq hc hbp => ?_⟩, ?_⟩
  · by_cases e : b = j
    · subst e; rw [zv_up_s]; exact hv
    · rw [zv_up_n (by omega)]; exact (i1 b hb1 hx).1
  · by_cases e : b = j
    · subst e
      rw [zv_up_s] at hbp ⊢
      obtain ⟨c1, c2⟩ := (hb p).mp hbp
      refine (hb q).mpr ⟨i4 b hb1 hx hf p q hp hq ht hup huq hc c1, fun d d1 d2 d3 => ?_⟩
      obtain ⟨r, r1, r2, r3⟩ := c2 d d1 d2 d3
      by_cases er : r = q
      · subst er
        by_cases hfd : Fx d
        · exact absurd (i2 d d1 d3 hfd r r2).symm (hc d d1 hfd).2
        · exact ⟨p, hp, i4 d d1 d3 hfd r p hq hp (ym_tw_s ht) huq hup (fun c c1 c2 => ⟨(hc c c1 c2).2, (hc c c1 c2).1⟩) r2, by rw [H.2.2.2 p r hp hq]; exact r3⟩
      · have erp : r ≠ p := fun e => by
          subst e
          rw [(H.2.2.1 r r1).2] at r3; cases r3
        refine ⟨r, r1, r2, ?_⟩
        rw [H.2.2.2 r q r1 hq, ← ht.2.2 r r1 ((i1 d d1 d3).2 r r2).1 erp er, H.2.2.2 p r hp r1]
        exact r3
    · rw [zv_up_n (by omega)] at hbp ⊢
      exact i4 b hb1 hx hf p q hp hq ht hup huq hc hbp
  · refine yc_prune (yc_N_s H) (yc_J_s H) yc_ls_nd (fun b _ q _ hq => sub b q hq) fun S hS b hbm => ?_
    show zb (zv_up G (o + j) v (o + b)) (S b) = true
    by_cases e : b = j
    · subst e
      rw [zv_up_s]
      refine (hb _).mpr ⟨(hS.1 b hbm).2, fun d d1 d2 d3 => ?_⟩
      have hd : d ∈ yc_ls (zb x2) 8 := yc_ls_mem.mpr ⟨d1, d3⟩
      have hdb : b ≠ d := fun e => by
        subst e
        rw [(H.1 b hj).2.2] at d2; cases d2
      have hw := (hS.2 b hbm d hd hdb).2 (yc_N_t.mpr ⟨hj, d1, d2⟩)
      obtain ⟨w1, w2, -, -, w5⟩ := yc_J_t.mp hw
      exact ⟨S d, w2, (hS.1 d hd).2, by rw [H.2.2.2 _ _ w2 w1]; exact w5⟩
    · rw [zv_up_n (by omega)]
      exact (hS.1 b hbm).2
theorem yc_empty {nr J row : Nat → Nat → Bool} (hn : ∀ a b, nr a b = nr b a) (hJ : ∀ i j, J i j = J j i) {ns : List Nat} (hd : ns.Nodup) {b : Nat} (hb : b ∈ ns) (h : ∀ j, j < 24 → row b j = false) : yc nr J ns row = 0 := by
  by_cases c : 0 < yc nr J ns row
  · obtain ⟨S, h1, -⟩ := yc_pos2 hn hJ hd c
    have := h1 b hb
    rw [h _ this.1] at this
    exact absurd this.2 (by decide)
  · omega
theorem yc_ls_0 {f : Nat → Bool} : ∀ {n : Nat}, (∀ b, b < n → f b = false) → yc_ls f n = []
  | 0, _ => rfl
  | n + 1, h => by
    show cond (f n) (n :: yc_ls f n) (yc_ls f n) = []
    rw [h n (Nat.lt_succ_self n)]
    exact yc_ls_0 fun b hb => h b (by omega)
theorem yc_w_mem {nr J row : Nat → Nat → Bool} {l l2 : List Nat} {S : Nat → Nat} (e : ∀ a, a ∈ l2 → a ∈ l) (h : yc_w nr J row l S) : yc_w nr J row l2 S :=
  ⟨fun a ha => h.1 a (e a ha), fun a ha b hb => h.2 a (e a ha) b (e b hb)⟩
theorem yc_cls {f t : Nat → Bool} {c : Nat → Nat} {c0 : Nat} : ∀ {n : Nat}, (∀ j, j < n → f j = true → t j = true → c j = c0) → ∃ L : Nat, (L : Int) = yn_n (fun j => f j && t j) n ∧ yc_sum (fun j => if f j = true then c j else 0) n = L * c0 + yc_sum (fun j => if (f j && !t j) = true then c j else 0) n
  | 0, _ => ⟨0, rfl, by show 0 = 0 * c0 + 0; omega⟩
  | n + 1, h => by
    obtain ⟨L, e1, e2⟩ := yc_cls (f := f) (t := t) (c := c) (c0 := c0) (n := n) fun j hj => h j (by omega)
    have hs : ∀ g : Nat → Nat, yc_sum g (n + 1) = yc_sum g n + g n := fun _ => rfl
    have hy : ∀ g : Nat → Bool, yn_n g (n + 1) = yn_n g n + (if g n = true then 1 else 0) := fun _ => rfl
    rw [hs, hs, hy, e2]
    by_cases a : f n = true
    · by_cases b : t n = true
      · refine ⟨L + 1, ?_, ?_⟩
        · rw [← e1, a, b, if_pos (by decide)]; omega
        · rw [if_pos a, a, b, if_neg (by decide), h n (Nat.lt_succ_self n) a b, Nat.add_mul, Nat.one_mul]; omega
      · refine ⟨L, ?_, ?_⟩
        · rw [← e1, a, Bool.eq_false_iff.mpr b, if_neg (by decide)]; omega
        · rw [if_pos a, a, Bool.eq_false_iff.mpr b, if_pos (by decide)]; omega
    · refine ⟨L, ?_, ?_⟩
      · rw [← e1, Bool.eq_false_iff.mpr a, Bool.false_and, if_neg (by decide)]; omega
      · rw [if_neg a, Bool.eq_false_iff.mpr a, Bool.false_and, if_neg (by decide)]; omega
theorem yn_one {f : Nat → Bool} {s : Nat} : ∀ n : Nat, (∀ j, j < n → f j = true → j = s) → yn_n f n ≤ 1 ∧ (n ≤ s → yn_n f n = 0)
  | 0, _ => ⟨show (0 : Int) ≤ 1 by decide, fun _ => rfl⟩
  | n + 1, h => by
    have ih := yn_one (f := f) (s := s) n fun j hj => h j (by omega)
    show yn_n f n + (if f n = true then 1 else 0) ≤ 1 ∧ (n + 1 ≤ s → yn_n f n + (if f n = true then 1 else 0) = 0)
    by_cases c : f n = true
    · have := h n (by omega) c
      rw [if_pos c]
      have := ih.2 (by omega)
      exact ⟨by omega, fun _ => by omega⟩
    · rw [if_neg c]
      exact ⟨by omega, fun w => by have := ih.2 (by omega); omega⟩
end YCI
end
section
/-! The matcher's search: it counts the ways, as far as it is asked to. -/
def ym_W (z : Int) (nr J : Int → Int) (o x2 : Int) (G S : Int → Int) : Prop := yc_w (yc_N nr) (yc_J z J) (yc_R G o) (yc_ls (zb x2) 8) (fun b => (S b).toNat) ∧ ∀ b : Nat, b < 8 → zb x2 b = true → 0 ≤ S b
def ym_C (z : Int) (nr J : Int → Int) (o x2 : Int) (G : Int → Int) : Nat := yc (yc_N nr) (yc_J z J) (yc_ls (zb x2) 8) (yc_R G o)
theorem yc_cons {nr J row : Nat → Nat → Bool} {a : Nat} {ns : List Nat} : yc nr J (a :: ns) row = yc_sum (fun i => if row a i = true then yc nr J ns (yc_nw nr J row a i) else 0) 24 := rfl
def ym_Vs (x5 : Int) (c : Nat → Nat) (v : Nat) : Prop := yc_sum (fun j => if zb x5 j = true then c j else 0) 24 = v
def ym_Cv (z : Int) (nr J : Int → Int) (o x2 : Int) (G : Int → Int) (v : Nat) : Prop := ym_C z nr J o x2 G = v
theorem ym_key {A B L1 L2 : Int} (h1 : 2 ≤ A) (h2 : B ≤ 1) (h3 : L1 ≤ 7) (h4 : 0 ≤ L2) (h5 : 8 * A - L1 ≤ 8 * B - L2) : False := by omega
theorem ym_class {x5 t : Int} {c : Nat → Nat} {m v : Nat} (z5 : z24 x5) (hm : m < 24) (hb : zb x5 m = true) (ht : zb t m = true) (hc : ∀ j, j < 24 → zb x5 j = true → zb t j = true → c j = c m) (hv : ym_Vs x5 c v) :
    ∃ Lk v' : Nat, zs_sum (zi_and x5 t) 24 = Lk ∧ 1 ≤ Lk ∧ Lk ≤ 24 ∧ v = Lk * c m + v' ∧ ym_Vs (zi_and x5 (zi_xor t (-1))) c v' := by
  obtain ⟨Lk, eL, eV⟩ := yc_cls (f := zb x5) (t := zb t) (c := c) (c0 := c m) (n := 24) hc
  have eL2 : zs_sum (zi_and x5 t) 24 = Lk := by
    rw [yn_sum (z24_and z5).1 (by have := (z24_and (b := t) z5).2; omega) 24, eL]
    exact yn_eq 24 fun j _ => by rw [zb_and]
  have l1 := yn_lt (f := fun _ => false) (g := fun j => zb x5 j && zb t j) (k := m) (by decide) (by rw [hb, ht]; rfl) 24 hm fun j _ h => (by cases h)
  have l0 := (yn_in (f := fun _ => false) 24).1
  have l2 := (yn_in (f := fun j => zb x5 j && zb t j) 24).2
  rw [← eL] at l1 l2
  have eV2 : yc_sum (fun j => if (zb x5 j && !zb t j) = true then c j else 0) 24 = yc_sum (fun j => if zb (zi_and x5 (zi_xor t (-1))) j = true then c j else 0) 24 := yc_sum_cg fun j hj => by rw [zb_and, zb_not (by omega)]
  rw [eV2, hv] at eV
  clear eL
  generalize yn_n (fun _ => false) 24 = q at l1 l0
  exact ⟨Lk, _, eL2, by clear eL2 eV eV2; omega, by clear eL2 eV eV2; omega, eV, rfl⟩
section YCS
variable {z : Int} {nr J T : Int → Int} {Fx : Nat → Prop} {sf : Nat → Nat}
/-- of twins that a name may be one does for all -/
theorem ym_same (H : ym_H nr J) {U : Nat → Prop} {o x2 x6 : Int} {G : Int → Int} (hI : ym_I z J Fx sf U o x2 G) {a : Nat} (ha : a < 8) (hxa : zb x2 a = true) (h6 : ∀ b : Nat, b < 8 → (zb x6 b = true ↔ zb x2 b = true ∧ b ≠ a)) (hmin : ∀ j : Nat, j < 8 → zb x2 j = true → ym_rk o G nr a ≤ ym_rk o G nr j) {p q : Nat} (hp : p < 24) (hq : q < 24) (hap : zb (G (o + a)) p = true) (haq : zb (G (o + a)) q = true) (ht : ym_tw z J p q) :
    yc (yc_N nr) (yc_J z J) (yc_ls (zb x6) 8) (yc_nw (yc_N nr) (yc_J z J) (yc_R G o) a q) = yc (yc_N nr) (yc_J z J) (yc_ls (zb x6) 8) (yc_nw (yc_N nr) (yc_J z J) (yc_R G o) a p) := by
  by_cases e : p = q
  · subst e; rfl
  obtain ⟨i1, i2, i3, i4⟩ := id hI
  have two : 2 ≤ yn_n (zb (G (o + a))) 24 := by
    have := yc_pig (S := id) (ns := [p, q]) (z := zb (G (o + a))) (by simp [e]) (fun b hb => by
      rcases List.mem_cons.mp hb with h | hb
      · subst h; exact ⟨hp, hap⟩
      · rcases List.mem_cons.mp hb with h | hb
        · subst h; exact ⟨hq, haq⟩
        · cases hb) fun b _ c _ hbc => hbc
    exact this
  have nofx : ∀ c : Nat, c < 8 → Fx c → ¬ zb x2 c = true := fun c c1 c2 c3 => by
    have one := (yn_one (f := zb (G (o + c))) (s := sf c) 24 fun j _ hj => i2 c c1 c3 c2 j hj).1
    have r := hmin c c1 c3
    have za := (i1 a ha hxa).1
    have zc := (i1 c c1 c3).1
    have n1 := (H.1 a ha).2.1
    have n2 := (zs_sum_in (t := nr (c : Int)) 24).1
    unfold ym_rk at r
    rw [yn_sum za.1 (by have := za.2; omega) 24, yn_sum zc.1 (by have := zc.2; omega) 24] at r
    exact ym_key two one n1 n2 r
  have us : ∀ c : Nat, c < 8 → Fx c → U (sf c) := fun c c1 c2 => (i3 c c1 c2).elim (fun w => absurd w (nofx c c1 c2)) id
  have np := ((i1 a ha hxa).2 p hap).2
  have nq := ((i1 a ha hxa).2 q haq).2
  have hsf : ∀ c : Nat, c < 8 → Fx c → sf c ≠ p ∧ sf c ≠ q := fun c c1 c2 => ⟨fun w => np (by rw [← w]; exact us c c1 c2), fun w => nq (by rw [← w]; exact us c c1 c2)⟩
  refine yc_twin (yc_J_s H) (yc_J_x H) hp hq (fun x hx xp xq => ?_) fun b hb => ?_
  · rw [Bool.eq_iff_iff, yc_J_t, yc_J_t]
    constructor
    · rintro ⟨q1, q2, q3, q4, q5⟩
      exact ⟨hq, q2, ht.2.1, q4, by rw [← ht.2.2 x hx q4 xp xq]; exact q5⟩
    · rintro ⟨q1, q2, q3, q4, q5⟩
      exact ⟨hp, q2, ht.1, q4, by rw [ht.2.2 x hx q4 xp xq]; exact q5⟩
  · obtain ⟨b1, b2⟩ := yc_ls_mem.mp hb
    obtain ⟨b3, b4⟩ := (h6 b b1).mp b2
    have nf : ¬ Fx b := fun w => nofx b b1 w b3
    show zb (G (o + b)) p = zb (G (o + b)) q
    rw [Bool.eq_iff_iff]
    exact ⟨i4 b b1 b3 nf p q hp hq ht np nq hsf, i4 b b1 b3 nf q p hq hp (ym_tw_s ht) nq np fun c c1 c2 => ⟨(hsf c c1 c2).2, (hsf c c1 c2).1⟩⟩
theorem ym_search (H : ym_H nr J) (hT : ∀ p : Nat, p < 24 → ∀ q, zb (T p) q = true ↔ q < 24 ∧ (q = p ∨ ym_tw z J p q)) : ∀ (n w : Nat) (x1 x2 x3 f2 : Int) (G S : Int → Int) (U : Nat → Prop), 0 ≤ x1 → x1 + yn_n (zb x2) 8 ≤ 8 → 8 - x1 < n → 1 ≤ x3 → x3 ≤ 10000 → z24 x2 → (∀ b, zb x2 b = true → b < 8) → ym_I z J Fx sf U (8 * x1) x2 G →
    zh_ok (zg_Matcher_search n w x1 x2 x3 f2 G nr T S J) fun o => o.1 = (if (ym_C z nr J (8 * x1) x2 G : Int) < x3 then (ym_C z nr J (8 * x1) x2 G : Int) else x3) ∧ (∀ q, q < 8 * x1 + 8 → o.2.2.1 q = G q) ∧ (∀ b : Nat, b < 8 → ¬ zb x2 b = true → o.2.2.2 b = S b) ∧ (x3 = 1 → 0 < o.1 → ym_W z nr J (8 * x1) x2 G o.2.2.2) := by
  intro n
  induction n with
  | zero => intro w x1 x2 x3 f2 G S U h1 h2 h3; have := (yn_in (f := zb x2) 8).1; omega
  | succ n ih =>
    intro w x1 x2 x3 f2 G S U h1 h2 h3 h4 h5 h6 h7 hI
    show zh_ok (zm_Matcher_search (zg_Matcher_search n) x1 x2 x3 f2 G nr T S J) _
    unfold zm_Matcher_search
    refine zh_ite (fun e0 => ?_) fun e0 => ?_
    · have el : yc_ls (zb x2) 8 = [] := yc_ls_0 fun b _ => by rw [e0]; exact zb_0
      have eC : ym_C z nr J (8 * x1) x2 G = 1 := by unfold ym_C; rw [el]; rfl
      refine zh_ret ⟨?_, fun _ _ => rfl, fun _ _ _ => rfl, fun _ _ => ⟨?_, fun b b1 b2 => ?_⟩⟩
      · rw [eC]
        show (1 : Int) = if ((1 : Nat) : Int) < x3 then ((1 : Nat) : Int) else x3
        split <;> omega
      · rw [el]; exact ⟨fun a ha => (by cases ha), fun a ha => (by cases ha)⟩
      · rw [e0, zb_0] at b2; cases b2
    obtain ⟨j0, j1, j2⟩ : ∃ j : Nat, j < 8 ∧ zb x2 j = true := by
      by_cases c : ∃ j : Nat, j < 24 ∧ zb x2 j = true
      · obtain ⟨j, _, j2⟩ := c; exact ⟨j, h7 j j2, j2⟩
      · exact absurd ((z24_z h6).mpr fun j hj => Bool.eq_false_iff.mpr fun w => c ⟨j, hj, w⟩) e0
    have h8 : x1 < 8 := by
      have l1 := yn_lt (f := fun _ => false) (g := zb x2) (k := j0) (by decide) j2 8 j1 fun j _ h => (by cases h)
      have l0 := (yn_in (f := fun _ => false) 8).1
      generalize yn_n (fun _ => false) 8 = q at l1 l0
      omega
    refine zh_ite (fun _ => ?_) fun w => absurd h8 w
    obtain ⟨i1, i2, i3, i4⟩ := id hI
    refine zh_bind (ym_tightest h1 h8 (fun j hj hx => (i1 j hj hx).1) (fun j hj => (H.1 j hj).1) ⟨j0, j1, j2⟩) fun r4 hr => ?_
    obtain ⟨⟨r0, r1⟩, hxa, hmin⟩ := hr
    obtain ⟨a, rfl⟩ : ∃ a : Nat, r4 = a := ⟨r4.toNat, by omega⟩
    have hxa : zb x2 a = true := hxa
    have ha : a < 8 := by omega
    rw [zi_w_id (x := x1 * 8) (by omega) (by omega), show x1 * 8 = 8 * x1 from Int.mul_comm _ _, zi_w_id (x := 8 * x1 + (a : Int)) (by omega) (by omega), zl_ci (a := 8 * x1 + (a : Int)) (by omega) (by omega)]
    obtain ⟨x6, e6⟩ : ∃ x6, x6 = zi_and x2 (zi_xor (zi_shl 1 (a : Int)) (-1)) := ⟨_, rfl⟩
    rw [← e6]
    have z6 : z24 x6 := by rw [e6]; exact z24_and h6
    have h66 : ∀ b : Nat, b < 24 → (zb x6 b = true ↔ zb x2 b = true ∧ b ≠ a) := fun b hb => by
      rw [e6, zb_clr (by omega) (by omega) hb, Bool.and_eq_true, Bool.not_eq_true', decide_eq_false_iff_not, Int.toNat_natCast]
    have h68 : ∀ b : Nat, b < 8 → (zb x6 b = true ↔ zb x2 b = true ∧ b ≠ a) := fun b hb => h66 b (by omega)
    have h6b : ∀ b, zb x6 b = true → b < 8 := fun b hb => by
      by_cases c : b < 24
      · exact h7 b ((h66 b c).mp hb).1
      · rw [z24_b z6 (by omega)] at hb; cases hb
    have hcnt : yn_n (zb x2) 8 = yn_n (zb x6) 8 + 1 := yn_add (k := a) (Bool.eq_false_iff.mpr fun w => ((h68 a ha).mp w).2 rfl) hxa 8 ha fun j hj hja => by
      rw [Bool.eq_iff_iff, h68 j hj]
      exact ⟨fun w => w.1, fun w => ⟨w, hja⟩⟩
    have h2n : x1 + 1 + yn_n (zb x6) 8 ≤ 8 := by
      rw [hcnt] at h2
      generalize yn_n (zb x6) 8 = q at h2 ⊢
      omega
    clear hcnt h2
    obtain ⟨o, eo⟩ : ∃ o, o = 8 * x1 := ⟨_, rfl⟩
    have eo2 : 8 * (x1 + 1) = o + 8 := by omega
    rw [← eo] at hI i1 i2 i4 hmin ⊢
    obtain ⟨c, ec⟩ : ∃ c : Nat → Nat, c = fun i => yc (yc_N nr) (yc_J z J) (yc_ls (zb x6) 8) (yc_nw (yc_N nr) (yc_J z J) (yc_R G o) a i) := ⟨_, rfl⟩
    have na : a ∉ yc_ls (zb x6) 8 := fun w => ((h68 a ha).mp (yc_ls_mem.mp w).2).2 rfl
    have lmem : ∀ b, b ∈ yc_ls (zb x2) 8 ↔ b ∈ a :: yc_ls (zb x6) 8 := fun b => by
      rw [List.mem_cons, yc_ls_mem, yc_ls_mem]
      constructor
      · rintro ⟨q1, q2⟩
        by_cases e : b = a
        · exact .inl e
        · exact .inr ⟨q1, (h68 b q1).mpr ⟨q2, e⟩⟩
      · rintro (e | ⟨q1, q2⟩)
        · subst e; exact ⟨ha, hxa⟩
        · exact ⟨q1, ((h68 b q1).mp q2).1⟩
    obtain ⟨C, eC⟩ : ∃ C, C = ym_C z nr J o x2 G := ⟨_, rfl⟩
    have hC : ym_Vs (G (o + a)) c C := by
      have e1 : ym_C z nr J o x2 G = yc (yc_N nr) (yc_J z J) (a :: yc_ls (zb x6) 8) (yc_R G o) := by
        unfold ym_C
        exact yc_set (yc_N_s H) (yc_J_s H) yc_ls_nd (List.nodup_cons.mpr ⟨na, yc_ls_nd⟩) lmem
      unfold ym_Vs
      rw [eC, e1, yc_cons, ec]
      exact yc_sum_cg fun i _ => rfl
    rw [← eC]
    clear eC
    have za := (i1 a ha hxa).1
    refine zh_bind (Q := fun q => ((q.1 = (C : Int) ∧ q.1 < x3) ∨ (x3 ≤ q.1 ∧ x3 ≤ (C : Int))) ∧ (∀ p, p < o + 8 → q.2.2.1 p = G p) ∧ (∀ b : Nat, b < 8 → ¬ zb x2 b = true → q.2.2.2 b = S b) ∧ (x3 = 1 → 0 < q.1 → ym_W z nr J o x2 G q.2.2.2))
      (zh_loop (F := fun n2 i (s : Int × Int × Int × (Int → Int) × (Int → Int)) => zm_Matcher_search_l0 (zg_Matcher_search n) x1 x3 (a : Int) x6 nr T J n2 s.1 s.2.1 i s.2.2.1 s.2.2.2.1 s.2.2.2.2) (N := 24)
        (I := fun i s => ((z24 s.1 ∧ ∀ j : Nat, zb s.1 j = true → zb (G (o + a)) j = true ∧ i ≤ (j : Int)) ∧ ∃ w v : Nat, ym_Vs s.1 c v ∧ C = w + v ∧ ((s.2.1 = w ∧ (w : Int) < x3) ∨ (x3 ≤ s.2.1 ∧ x3 ≤ (C : Int)))) ∧ (∀ p, p < o + 8 → s.2.2.2.1 p = G p) ∧ (∀ b : Nat, b < 8 → ¬ zb x2 b = true → s.2.2.2.2 b = S b) ∧ (x3 = 1 → 0 < s.2.1 → ym_W z nr J o x2 G s.2.2.2.2))
        (fun n2 i s i0 i24 hs k => ?_) 24 0 (G (o + a), 0, f2, G, S) zi_fu (by decide) (by decide) (by decide) (by decide) ⟨⟨⟨za, fun j hj => ⟨hj, Int.natCast_nonneg j⟩⟩, 0, C, hC, (Nat.zero_add C).symm, .inl ⟨rfl, show (0 : Int) < x3 by omega⟩⟩, fun _ _ => rfl, fun _ _ _ => rfl, fun _ w => absurd w (Int.lt_irrefl 0)⟩) fun q hq => ?_
    · obtain ⟨x5, x7, f, g, S2⟩ := s
      obtain ⟨⟨⟨z5, b5⟩, wn, vn, hv, ew, hw⟩, hg, hS, hW⟩ := hs
      have z5 : z24 x5 := z5
      have b5 : ∀ j : Nat, zb x5 j = true → zb (G (o + a)) j = true ∧ i ≤ (j : Int) := b5
      have hv : ym_Vs x5 c vn := hv
      have hw : (x7 = wn ∧ (wn : Int) < x3) ∨ (x3 ≤ x7 ∧ x3 ≤ (C : Int)) := hw
      have hg : ∀ p, p < o + 8 → g p = G p := hg
      have hS : ∀ b : Nat, b < 8 → ¬ zb x2 b = true → S2 b = S b := hS
      show zh_ok (zm_Matcher_search_l0_b (zg_Matcher_search n) x1 x3 (a : Int) x6 nr T J (zm_Matcher_search_l0 (zg_Matcher_search n) x1 x3 (a : Int) x6 nr T J n2) x5 x7 i f g S2) _
      unfold zm_Matcher_search_l0_b
      refine zh_ite (fun hi => ?_) fun hi => zh_ret ⟨?_, hg, hS, hW⟩
      · refine zh_ite (fun h73 => ?_) fun h73 => zh_ret ⟨.inr (hw.elim (fun w => absurd w.2 (by omega)) id), hg, hS, hW⟩
        obtain ⟨w1, w2⟩ : x7 = wn ∧ (wn : Int) < x3 := hw.elim id fun w => absurd w.1 (by omega)
        obtain ⟨m, rfl⟩ : ∃ m : Nat, i = m := ⟨i.toNat, by omega⟩
        have hm : m < 24 := by omega
        rw [zi_w_id (x := (m : Int) + 1) (by omega) (by omega)]
        by_cases hb : zb x5 m = true
        · rw [zb_bit1 (t := x5) (i := (m : Int)) i0 (by omega) hb, if_neg (show ¬ (1 : Int) = 0 by decide), zl_ci (n := 24) i0 (by omega), ze_bc (z24_and z5), zl_b, zl_ci (n := 8) (a := (a : Int)) (by omega) (by omega), zi_w_id (x := x1 + 1) (by omega) (by omega), zi_w_id (x := x3 - x7) (by omega) (by omega)]
          have ram := (b5 m hb).1
          have zm := (i1 a ha hxa).2 m ram
          -- the class of m
          obtain ⟨Lk, v', eL2, hL1, hL2, eV, hv'⟩ := ym_class z5 hm hb ((hT m hm m).mpr ⟨hm, .inl rfl⟩) (fun j hj q1 q2 => by
            rcases ((hT m hm j).mp q2).2 with e | e
            · rw [e]
            · rw [ec]
              exact ym_same H hI ha hxa h68 hmin hm hj ram (b5 j q1).1 e) hv
          rw [eL2]
          clear eL2
          obtain ⟨x5n, e5n⟩ : ∃ v, v = zi_and x5 (zi_xor (T (m : Int)) (-1)) := ⟨_, rfl⟩
          rw [← e5n] at hv' ⊢
          have z5n : z24 x5n := by rw [e5n]; exact z24_and z5
          have b5n : ∀ j : Nat, j < 24 → zb x5n j = (zb x5 j && !zb (T (m : Int)) j) := fun j hj => by rw [e5n, zb_and, zb_not (by omega)]
          have b5m : ∀ j : Nat, zb x5n j = true → zb (G (o + a)) j = true ∧ (m : Int) + 1 ≤ (j : Int) := fun j hj => by
            have hj24 : j < 24 := by
              by_cases e : j < 24
              · exact e
              · rw [z24_b z5n (by omega)] at hj; cases hj
            rw [b5n j hj24, Bool.and_eq_true, Bool.not_eq_true'] at hj
            have q := b5 j hj.1
            refine ⟨q.1, ?_⟩
            by_cases e : j = m
            · subst e
              have : zb (T (j : Int)) j = true := (hT j hm j).mpr ⟨hm, .inl rfl⟩
              rw [this] at hj; exact absurd hj.2 (by decide)
            · omega
          have hS3 : ∀ b : Nat, b < 8 → ¬ zb x2 b = true → zv_up S2 (a : Int) (m : Int) b = S b := fun b b1 b2 => by
            rw [zv_up_n (by
              intro e
              have : b = a := by omega
              subst this; exact b2 hxa)]
            exact hS b b1 b2
          -- a dead end
          have dead : c m = 0 → ∀ f' g', (∀ p, p < o + 8 → g' p = G p) → zh_ok (zm_Matcher_search_l0 (zg_Matcher_search n) x1 x3 (a : Int) x6 nr T J n2 x5n x7 ((m : Int) + 1) f' g' (zv_up S2 (a : Int) (m : Int))) _ := fun hc f' g' hg' => k (x5n, x7, f', g', zv_up S2 (a : Int) (m : Int)) hi ⟨⟨⟨z5n, b5m⟩, wn, v', hv', by rw [ew, eV, hc, Nat.mul_zero, Nat.zero_add], .inl ⟨w1, w2⟩⟩, hg', hS3, fun q1 q2 => by
            have q2 : 0 < x7 := q2
            omega⟩
          -- a way on
          have on : ∀ f' g', (∀ p, p < o + 8 → g' p = G p) → ym_I z J Fx sf (fun j => U j ∨ j = m) (o + 8) x6 g' → ym_Cv z nr J (o + 8) x6 g' (c m) → (∀ b : Nat, b < 8 → zb x6 b = true → ∀ j, zb (g' (o + 8 + b)) j = true → zb (ym_nw nr J a m (G (o + b)) b) j = true) →
              zh_ok ((zg_Matcher_search n 0 (x1 + 1) x6 (x3 - x7) f' g' nr T (zv_up S2 (a : Int) (m : Int)) J).bind fun r15 => (zm_Matcher_search_l0 (zg_Matcher_search n) x1 x3 (a : Int) x6 nr T J n2 x5n (zi_w (x7 + (zi_w ((Lk : Int) * r15.1)))) ((m : Int) + 1) r15.2.1 r15.2.2.1 r15.2.2.2)) _ := fun f' g' hg' hI' hC' hsub => by
            refine zh_bind (ih 0 (x1 + 1) x6 (x3 - x7) f' g' (zv_up S2 (a : Int) (m : Int)) (fun j => U j ∨ j = m) (by omega) h2n (by omega) (by omega) (by omega) z6 h6b (by rw [eo2]; exact hI')) fun r hr => ?_
            unfold ym_Cv at hC'
            rw [eo2, hC'] at hr
            clear hC'
            obtain ⟨q1, q2, q3, q4⟩ := hr
            have lo : 0 ≤ r.1 ∧ r.1 ≤ x3 - x7 := by
              rw [q1]; split <;> omega
            have hmul : (Lk : Int) * r.1 ≤ 24 * r.1 := Int.mul_le_mul_of_nonneg_right (by omega) lo.1
            have hmul0 : 0 ≤ (Lk : Int) * r.1 := Int.mul_nonneg (by omega) lo.1
            have hmul1 : r.1 ≤ (Lk : Int) * r.1 := by
              have := Int.mul_le_mul_of_nonneg_right (show (1 : Int) ≤ (Lk : Int) by omega) lo.1
              rwa [Int.one_mul] at this
            rw [zi_w_id (x := (Lk : Int) * r.1) (by omega) (by omega), zi_w_id (x := x7 + (Lk : Int) * r.1) (by omega) (by omega)]
            refine k (x5n, x7 + (Lk : Int) * r.1, r.2.1, r.2.2.1, r.2.2.2) hi ⟨⟨⟨z5n, b5m⟩, wn + Lk * c m, v', hv', by rw [ew, eV, Nat.add_assoc], ?_⟩, fun p hp => by rw [q2 p (by omega)]; exact hg' p hp, fun b b1 b2 => ?_, fun e1 e2 => ?_⟩
            · show (x7 + (Lk : Int) * r.1 = ((wn + Lk * c m : Nat) : Int) ∧ ((wn + Lk * c m : Nat) : Int) < x3) ∨ (x3 ≤ x7 + (Lk : Int) * r.1 ∧ x3 ≤ (C : Int))
              have eN : ((wn + Lk * c m : Nat) : Int) = (wn : Int) + (Lk : Int) * (c m : Int) := by rw [Int.natCast_add, Int.natCast_mul]
              have hCw : wn + Lk * c m ≤ C := by rw [ew, eV, ← Nat.add_assoc]; exact Nat.le_add_right _ _
              have hm2 : (c m : Int) ≤ (Lk : Int) * (c m : Int) := by
                have := Int.mul_le_mul_of_nonneg_right (show (1 : Int) ≤ (Lk : Int) by omega) (show (0 : Int) ≤ (c m : Int) by omega)
                rwa [Int.one_mul] at this
              by_cases cc : (c m : Int) < x3 - x7
              · rw [if_pos cc] at q1
                have e9 : x7 + (Lk : Int) * r.1 = ((wn + Lk * c m : Nat) : Int) := by rw [q1, w1, eN]
                by_cases c3 : ((wn + Lk * c m : Nat) : Int) < x3
                · exact .inl ⟨e9, c3⟩
                · exact .inr ⟨by rw [e9]; exact Int.not_lt.mp c3, Int.le_trans (Int.not_lt.mp c3) (Int.ofNat_le.mpr hCw)⟩
              · rw [if_neg cc] at q1
                refine .inr ⟨by omega, Int.le_trans ?_ (Int.ofNat_le.mpr hCw)⟩
                show x3 ≤ ((wn + Lk * c m : Nat) : Int)
                rw [eN]
                omega
            · show r.2.2.2 b = S b
              rw [q3 b b1 fun w => b2 ((h68 b b1).mp w).1]
              exact hS3 b b1 b2
            · have e2 : 0 < x7 + (Lk : Int) * r.1 := e2
              have r1 : 0 < r.1 := by
                by_cases z : r.1 = 0
                · rw [z, Int.mul_zero] at e2; omega
                · omega
              obtain ⟨W1, W2⟩ := q4 (by omega) r1
              show ym_W z nr J o x2 G r.2.2.2
              have ea : r.2.2.2 (a : Int) = (m : Int) := by
                rw [q3 a ha fun w => ((h68 a ha).mp w).2 rfl, zv_up_s]
              have eat : (r.2.2.2 ((a : Nat) : Int)).toNat = m := by rw [ea, Int.toNat_natCast]
              refine ⟨yc_w_mem (fun b hb => (lmem b).mp hb) ((yc_w_cons (yc_N_s H) (yc_J_s H) na).mpr ?_), fun b b1 b2 => ?_⟩
              · show (r.2.2.2 ((a : Nat) : Int)).toNat < 24 ∧ yc_R G o a (r.2.2.2 ((a : Nat) : Int)).toNat = true ∧ yc_w (yc_N nr) (yc_J z J) (yc_nw (yc_N nr) (yc_J z J) (yc_R G o) a (r.2.2.2 ((a : Nat) : Int)).toNat) (yc_ls (zb x6) 8) fun b => (r.2.2.2 b).toNat
                rw [eat]
                refine ⟨hm, ram, yc_w_row W1 fun b hb => ?_⟩
                obtain ⟨b1, b2⟩ := yc_ls_mem.mp hb
                have hrow := hsub b b1 b2 _ (W1.1 b hb).2
                have zrow := (i1 b b1 ((h68 b b1).mp b2).1)
                obtain ⟨p1, p2, p3⟩ := (ym_nw_t zrow.1 hm).mp hrow
                refine yc_nw_t.mpr ⟨p1, p2, fun w => yc_J_t.mpr ⟨hm, (W1.1 b hb).1, zm.1, (zrow.2 _ p1).1, p3 (yc_N_t.mp w).2.2⟩⟩
              · by_cases e : b = a
                · subst e; rw [ea]; omega
                · exact W2 b b1 ((h68 b b1).mpr ⟨b2, e⟩)
          -- narrow
          refine zh_bind (ym_narrow (x2 := x6) (G := g) (nr := nr) (J := J) h1 h8 r0 r1 i0 (by omega)) fun r12 h12 => ?_
          rw [← eo] at h12
          obtain ⟨n1, n2⟩ := h12
          have n1 : ∀ p, p < o + 8 → r12.2 p = G p := fun p hp => by rw [n1 p hp]; exact hg p hp
          have cell : ∀ b : Nat, b < 8 → g (o + (b : Int)) = G (o + (b : Int)) := fun b hb => hg _ (by omega)
          refine zh_ite (fun hz => ?_) fun hz => ?_
          · rcases n2 with ⟨q1, -⟩ | ⟨-, b, b0, b1, b2, b3⟩
            · rw [q1] at hz; exact absurd hz (by decide)
            · obtain ⟨b, rfl⟩ : ∃ b' : Nat, b = b' := ⟨b.toNat, by omega⟩
              have b2 : zb x6 b = true := b2
              have b1 : b < 8 := by omega
              rw [cell b b1] at b3
              refine dead ?_ _ _ n1
              rw [ec]
              refine yc_empty (yc_N_s H) (yc_J_s H) yc_ls_nd (yc_ls_mem.mpr ⟨b1, b2⟩) fun j hj => Bool.eq_false_iff.mpr fun w => ?_
              obtain ⟨p1, p2, p3⟩ := yc_nw_t.mp w
              have hj2 : zb (ym_nw nr J a m (G (o + b)) b) j = true := (ym_nw_t (i1 b b1 ((h68 b b1).mp b2).1).1 hm).mpr ⟨p1, p2, fun w => (yc_J_t.mp (p3 (yc_N_t.mpr ⟨ha, b1, w⟩))).2.2.2.2⟩
              rw [b3, zb_0] at hj2; cases hj2
          · rcases n2 with ⟨-, n2⟩ | ⟨q1, -⟩
            · have hG1 : ∀ b : Nat, b < 8 → zb x6 b = true → r12.2 (o + 8 + b) = ym_nw nr J a m (G (o + b)) b := fun b b1 b2 => by
                rw [n2 b (by omega) (by omega) b2, cell b b1]
              have hI1 : ym_I z J Fx sf (fun j => U j ∨ j = m) (o + 8) x6 r12.2 := ym_I_nw H hI ha hxa hm ram h68 hG1
              have hC1 : ym_Cv z nr J (o + 8) x6 r12.2 (c m) := by
                rw [ec]
                refine yc_cg fun b hb j hj => ?_
                obtain ⟨b1, b2⟩ := yc_ls_mem.mp hb
                have zrow := i1 b b1 ((h68 b b1).mp b2).1
                show zb (r12.2 (o + 8 + b)) j = _
                rw [hG1 b b1 b2, Bool.eq_iff_iff, ym_nw_t zrow.1 hm, yc_nw_t]
                constructor
                · rintro ⟨p1, p2, p3⟩
                  exact ⟨p1, p2, fun w => yc_J_t.mpr ⟨hm, hj, zm.1, (zrow.2 j p1).1, p3 (yc_N_t.mp w).2.2⟩⟩
                · rintro ⟨p1, p2, p3⟩
                  exact ⟨p1, p2, fun w => (yc_J_t.mp (p3 (yc_N_t.mpr ⟨ha, b1, w⟩))).2.2.2.2⟩
              have hsub1 : ∀ b : Nat, b < 8 → zb x6 b = true → ∀ j, zb (r12.2 (o + 8 + b)) j = true → zb (ym_nw nr J a m (G (o + b)) b) j = true := fun b b1 b2 j hj => by rwa [hG1 b b1 b2] at hj
              refine zh_ite (fun _ => on f r12.2 n1 hI1 hC1 hsub1) fun _ => ?_
              refine zh_bind (ym_agree (K := fun g' => (∀ p, p < o + 8 → g' p = G p) ∧ ym_I z J Fx sf (fun j => U j ∨ j = m) (o + 8) x6 g' ∧ ym_Cv z nr J (o + 8) x6 g' (c m) ∧ ∀ b : Nat, b < 8 → zb x6 b = true → ∀ j, zb (g' (o + 8 + b)) j = true → zb (ym_nw nr J a m (G (o + b)) b) j = true) (x1 := x1 + 1) (x2 := x6) (nr := nr) (G := r12.2) (J := J) (by omega) (by omega) (fun i hi => (H.2.2.1 i hi).1) (fun g' hK j hj hx => ?_) (fun g' j v hK hj hx hv hq => ?_) ⟨n1, hI1, hC1, hsub1⟩) fun r16 h16 => ?_
              · rw [eo2]; exact (hK.2.1.1 j hj hx).1
              · rw [eo2] at hq ⊢
                obtain ⟨K1, K2, K3, K4⟩ := hK
                obtain ⟨A1, A2⟩ := ym_I_ag H K2 hj hx hv hq
                refine ⟨fun p hp => by rw [zv_up_n (by omega)]; exact K1 p hp, A1, A2.trans K3, fun b b1 b2 j2 hj2 => ?_⟩
                by_cases e : b = j
                · subst e
                  rw [zv_up_s] at hj2
                  exact K4 b b1 b2 j2 ((hq j2).mp hj2).1
                · rw [zv_up_n (by omega)] at hj2
                  exact K4 b b1 b2 j2 hj2
              · obtain ⟨⟨K1, K2, K3, K4⟩, h16⟩ := h16
                refine zh_ite (fun hz2 => ?_) fun hz2 => on f r16.2 K1 K2 K3 K4
                rcases h16 with q1 | ⟨-, j, j1, j2, -, -, K5, -⟩
                · rw [q1] at hz2; exact absurd hz2 (by decide)
                · refine dead ?_ _ _ K1
                  rw [← show _ = c m from K5]
                  refine yc_empty (yc_N_s H) (yc_J_s H) yc_ls_nd (yc_ls_mem.mpr ⟨j1, j2⟩) fun q hq => ?_
                  show zb (zv_up r16.2 (8 * (x1 + 1) + (j : Int)) 0 (o + 8 + (j : Int))) q = false
                  rw [eo2, zv_up_s]; exact zb_0
            · exact absurd q1 hz
        · rw [zb_bit0 (t := x5) (i := (m : Int)) i0 (by omega) hb, if_pos rfl]
          refine k (x5, x7, f, g, S2) hi ⟨⟨⟨z5, fun j hj => ⟨(b5 j hj).1, ?_⟩⟩, wn, vn, hv, ew, hw⟩, hg, hS, hW⟩
          have := (b5 j hj).2
          by_cases e : j = m
          · subst e; exact absurd hj hb
          · omega
      · have ez : vn = 0 := by
          unfold ym_Vs at hv
          rw [yc_sum_cg (g := fun _ => 0) fun j hj => if_neg fun w => by have := (b5 j w).2; omega, yc_sum_0 24] at hv
          exact hv.symm
        clear hv
        rw [ez] at ew
        show ((x7 = (C : Int) ∧ x7 < x3) ∨ (x3 ≤ x7 ∧ x3 ≤ (C : Int)))
        rcases hw with ⟨w1, w2⟩ | w
        · exact .inl ⟨by omega, by omega⟩
        · exact .inr w
    · obtain ⟨q1, q2, q3, q4⟩ := hq
      rw [ze_Math_min, zl_b]
      refine zh_ret ⟨?_, q2, q3, fun e1 e2 => q4 e1 ?_⟩
      · show (if x3 < q.1 then x3 else q.1) = if (C : Int) < x3 then (C : Int) else x3
        rcases q1 with ⟨c1, c2⟩ | ⟨c1, c2⟩
        · rw [if_neg (by omega), if_pos (by omega), c1]
        · rw [if_neg (show ¬ (C : Int) < x3 by omega)]
          split <;> omega
      · have e2 : 0 < (if x3 < q.1 then x3 else q.1) := e2
        split at e2 <;> omega
end YCS
end
section
/-! The reference's ways: as many as maps; the first of them. -/
def ym_A (z : Int) (nr J : Int → Int) (ni : Int) : Nat := yc (yc_N nr) (yc_J z J) (yc_ls (zb ni) 8) (fun _ j => zb z j)
/-- a way by what is seen -/
def ym_Y (z : Int) (nr J : Int → Int) (ni : Int) (W : Nat → Nat) : Prop := yc_w (yc_N nr) (yc_J z J) (fun _ j => zb z j) (yc_ls (zb ni) 8) W
/-- the first of the ways -/
def ym_F (z : Int) (nr J : Int → Int) (ni : Int) (W : Nat → Nat) : Prop := ym_Y z nr J ni W ∧ ∀ b : Nat, b < 8 → zb ni b = true → ∀ V, ym_Y z nr J ni V → (∀ c : Nat, c < b → zb ni c = true → V c = W c) → W b ≤ V b
theorem ym_F_u {z : Int} {nr J : Int → Int} {ni : Int} {W V : Nat → Nat} (h1 : ym_F z nr J ni W) (h2 : ym_F z nr J ni V) : ∀ b : Nat, b < 8 → zb ni b = true → W b = V b := by
  intro b
  induction b using Nat.strongRecOn with
  | ind b ih =>
    intro b8 hb
    have l1 := h1.2 b b8 hb V h2.1 fun c c1 c2 => (ih c c1 (by omega) c2).symm
    have l2 := h2.2 b b8 hb W h1.1 fun c c1 c2 => ih c c1 (by omega) c2
    omega
def ym_nl (nm : Int → Int) : Nat → Int → List Nat
  | 0, _ => []
  | r + 1, q => (nm q).toNat :: ym_nl nm r (q + 1)
noncomputable def ym_pr (z : Int) (nr J nm S : Int → Int) (q : Int) (b j : Nat) : Bool := zb z j && @decide (∀ p, 0 ≤ p → p < q → S p ≠ (j : Int) ∧ (zb (nr (nm p)) b = true → zb (J j) (S p).toNat = true)) (Classical.propDecidable _)
theorem ym_pr_t {z : Int} {nr J nm S : Int → Int} {q : Int} {b j : Nat} : ym_pr z nr J nm S q b j = true ↔ zb z j = true ∧ ∀ p, 0 ≤ p → p < q → S p ≠ (j : Int) ∧ (zb (nr (nm p)) b = true → zb (J j) (S p).toNat = true) := by
  unfold ym_pr
  rw [Bool.and_eq_true, @decide_eq_true_iff _ (Classical.propDecidable _)]
theorem yw_ok_t {z n : Int} {fr nm to J S : Int → Int} {q s : Int} : yw_ok z n fr nm to J S q s = true ↔ zb z s.toNat = true ∧ yw_P n S fr nm to J q s := by
  unfold yw_ok
  rw [Bool.and_eq_true, @decide_eq_true_iff _ (Classical.propDecidable _)]
theorem yw_cat_len {α : Type} {f : Int → List α} : ∀ k : Nat, k ≤ 24 → (yw_cat f k).length + yc_sum (fun j => (f (j : Int)).length) (24 - k) = yc_sum (fun j => (f (j : Int)).length) 24
  | 0, _ => by show 0 + _ = _; rw [Nat.zero_add]
  | k + 1, hk => by
    have ih := yw_cat_len (f := f) k (by omega)
    have e : 24 - k = (24 - (k + 1)) + 1 := by omega
    rw [e] at ih
    have ih : (yw_cat f k).length + (yc_sum (fun j => (f (j : Int)).length) (24 - (k + 1)) + (f ((24 - (k + 1) : Nat) : Int)).length) = _ := ih
    show (f (23 - (k : Int)) ++ yw_cat f k).length + _ = _
    rw [List.length_append, show (23 - (k : Int)) = ((24 - (k + 1) : Nat) : Int) by omega]
    omega
theorem yw_cat_head {α : Type} {f : Int → List α} {X : α} : ∀ k : Nat, k ≤ 24 → (yw_cat f k).head? = some X → ∃ s : Int, 24 - (k : Int) ≤ s ∧ s < 24 ∧ (f s).head? = some X ∧ ∀ t : Int, 24 - (k : Int) ≤ t → t < s → f t = []
  | 0, _, h => (by cases h)
  | k + 1, hk, h => by
    have h : (f (23 - (k : Int)) ++ yw_cat f k).head? = some X := h
    cases e : f (23 - (k : Int)) with
    | nil =>
      rw [e] at h
      obtain ⟨s, s1, s2, s3, s4⟩ := yw_cat_head (f := f) k (by omega) h
      refine ⟨s, by omega, s2, s3, fun t t1 t2 => ?_⟩
      by_cases w : t = 23 - (k : Int)
      · rw [w]; exact e
      · exact s4 t (by omega) t2
    | cons x l =>
      rw [e] at h
      exact ⟨23 - (k : Int), by omega, by omega, by rw [e]; exact h, fun t t1 t2 => by omega⟩
theorem yw_cat_ne {α : Type} {f : Int → List α} {s : Int} (hs : f s ≠ []) : ∀ k : Nat, k ≤ 24 → 24 - (k : Int) ≤ s → s < 24 → yw_cat f k ≠ []
  | 0, _, h, h2 => by omega
  | k + 1, hk, h, h2 => by
    show f (23 - (k : Int)) ++ yw_cat f k ≠ []
    intro w
    obtain ⟨w1, w2⟩ := List.append_eq_nil_iff.mp w
    by_cases e : s = 23 - (k : Int)
    · rw [← e] at w1; exact hs w1
    · exact yw_cat_ne hs k (by omega) (by omega) h2 w2
section YCR
variable {n ni z Nn : Int} {fr nm to J nr : Int → Int}
theorem yk_tl_H (tl : yk_tl n ni nr fr to) (hJ : ∀ i : Nat, i < 24 → z24 (J i) ∧ zb (J i) i = false) (hs : ∀ i j : Nat, i < 24 → j < 24 → zb (J i) j = zb (J j) i) : ym_H nr J ∧ ∀ a : Nat, a < 8 → ∀ b, zb (nr a) b = true → b < 8 ∧ zb ni b = true := by
  obtain ⟨-, hft, -, hz, hb, hn⟩ := tl
  have ln : ∀ a : Nat, a < 8 → ∀ b, zb (nr a) b = true → b < 8 ∧ zb ni b = true ∧ b ≠ a := fun a ha b h => by
    obtain ⟨i, i0, i1, hi⟩ := ((hn a (by omega) (by omega)).2 b).mp h
    obtain ⟨⟨a1, a2⟩, ⟨b1, b2⟩, ne⟩ := hft i i0 i1
    refine ⟨by rcases hi with hi | hi <;> omega, (hb b).mpr ⟨i, i0, i1, ?_⟩, fun e => ?_⟩
    · rcases hi with hi | hi
      · exact .inr hi.2
      · exact .inl hi.1
    · rcases hi with hi | hi <;> omega
  refine ⟨⟨fun a ha => ⟨(hn a (by omega) (by omega)).1, ?_, Bool.eq_false_iff.mpr fun w => (ln a ha a w).2.2 rfl⟩, fun a b ha hb2 => ?_, hJ, hs⟩, fun a ha b h => ⟨(ln a ha b h).1, (ln a ha b h).2.1⟩⟩
  · have hz2 := (hn a (by omega) (by omega)).1
    rw [yn_sum hz2.1 (by have := hz2.2; omega) 24]
    have l := yn_lt (f := zb (nr a)) (g := fun b => decide (b < 8)) (k := a) (fun w => (ln a ha a w).2.2 rfl) (decide_eq_true ha) 24 (by omega) fun j _ hj => decide_eq_true (ln a ha j hj).1
    have e : yn_n (fun b => decide (b < 8)) 24 = 8 := by decide
    omega
  · rw [Bool.eq_iff_iff, (hn a (by omega) (by omega)).2 b, (hn b (by omega) (by omega)).2 a]
    constructor
    · rintro ⟨i, i0, i1, hi⟩; exact ⟨i, i0, i1, hi.elim (fun w => .inr w) fun w => .inl w⟩
    · rintro ⟨i, i0, i1, hi⟩; exact ⟨i, i0, i1, hi.elim (fun w => .inr w) fun w => .inl w⟩
theorem yt_ln_b (tl : yk_tl n ni nr fr to) {a b : Int} (a0 : 0 ≤ a) (a1 : a < 8) (b0 : 0 ≤ b) : yt_ln n fr to a b ↔ zb (nr a) b.toNat = true := by
  rw [(tl.2.2.2.2.2 a a0 a1).2 b.toNat, Int.toNat_of_nonneg b0]
theorem yw_L_len (tl : yk_tl n ni nr fr to) (hn : yw_nmz ni Nn nm) (H : ym_H nr J) : ∀ (r : Nat) (q : Int) (S : Int → Int), q + r = Nn → 0 ≤ q → (∀ p, 0 ≤ p → p < q → 0 ≤ S p ∧ S p ≤ 23) →
    (yw_L (yw_ok z n fr nm to J) r q S).length = yc (yc_N nr) (yc_J z J) (ym_nl nm r q) (ym_pr z nr J nm S q) := by
  obtain ⟨⟨m0, m1⟩, hinc, hrg, -⟩ := id hn
  intro r
  induction r with
  | zero => intro q S _ _ _; rfl
  | succ r ih =>
    intro q S hq q0 hS
    obtain ⟨r1, r2, r3⟩ := hrg q q0 (by omega)
    obtain ⟨a, ha⟩ : ∃ a : Nat, nm q = a := ⟨(nm q).toNat, by omega⟩
    have len := yw_cat_len (f := fun s => cond (yw_ok z n fr nm to J S q s) (yw_L (yw_ok z n fr nm to J) r (q + 1) (zv_up S q s)) []) 24 (Nat.le_refl _)
    show (yw_cat (fun s => cond (yw_ok z n fr nm to J S q s) (yw_L (yw_ok z n fr nm to J) r (q + 1) (zv_up S q s)) []) 24).length = yc_sum (fun i => if ym_pr z nr J nm S q (nm q).toNat i = true then yc (yc_N nr) (yc_J z J) (ym_nl nm r (q + 1)) (yc_nw (yc_N nr) (yc_J z J) (ym_pr z nr J nm S q) (nm q).toNat i) else 0) 24
    have len : (yw_cat (fun s => cond (yw_ok z n fr nm to J S q s) (yw_L (yw_ok z n fr nm to J) r (q + 1) (zv_up S q s)) []) 24).length = yc_sum (fun j => (cond (yw_ok z n fr nm to J S q (j : Int)) (yw_L (yw_ok z n fr nm to J) r (q + 1) (zv_up S q (j : Int))) []).length) 24 := len
    rw [len]
    refine yc_sum_cg fun s hs => ?_
    have eok : yw_ok z n fr nm to J S q (s : Int) = ym_pr z nr J nm S q (nm q).toNat s := by
      rw [Bool.eq_iff_iff, yw_ok_t, ym_pr_t]
      show zb z s = true ∧ _ ↔ _
      constructor
      · rintro ⟨h1, h2⟩
        refine ⟨h1, fun p p0 p1 => ⟨(h2 p p0 p1).1, fun w => (h2 p p0 p1).2 ?_⟩⟩
        obtain ⟨y1, y2, -⟩ := hrg p p0 (by omega)
        exact (yt_ln_b tl y1 (by omega) r1).mpr w
      · rintro ⟨h1, h2⟩
        refine ⟨h1, fun p p0 p1 => ⟨(h2 p p0 p1).1, fun w => (h2 p p0 p1).2 ?_⟩⟩
        obtain ⟨y1, y2, -⟩ := hrg p p0 (by omega)
        exact (yt_ln_b tl y1 (by omega) r1).mp w
    rw [eok]
    by_cases c : ym_pr z nr J nm S q (nm q).toNat s = true
    · rw [if_pos c, c]
      show (yw_L (yw_ok z n fr nm to J) r (q + 1) (zv_up S q (s : Int))).length = _
      rw [ih (q + 1) (zv_up S q (s : Int)) (by omega) (by omega) fun p p0 p1 => by
        by_cases e : p = q
        · subst e; rw [zv_up_s]; omega
        · rw [zv_up_n e]; exact hS p p0 (by omega)]
      have mem : ∀ (r2 : Nat) (q2 : Int) (b : Nat), q2 + r2 = Nn → 0 ≤ q2 → b ∈ ym_nl nm r2 q2 → b < 8 := by
        intro r2
        induction r2 with
        | zero => intro q2 b _ _ h; cases h
        | succ r2 ih2 =>
          intro q2 b h1 h2 h
          rcases List.mem_cons.mp h with h | h
          · obtain ⟨y1, y2, -⟩ := hrg q2 h2 (by omega)
            omega
          · exact ih2 (q2 + 1) b (by omega) (by omega) h
      refine yc_cg fun b hb j hj => ?_
      have hb8 := mem r (q + 1) b (by omega) (by omega) hb
      obtain ⟨c1, c2⟩ := ym_pr_t.mp c
      rw [Bool.eq_iff_iff, ym_pr_t, yc_nw_t, ym_pr_t]
      constructor
      · rintro ⟨h1, h2⟩
        have hq2 := h2 q q0 (by omega)
        rw [zv_up_s, Int.toNat_natCast] at hq2
        refine ⟨⟨h1, fun p p0 p1 => ?_⟩, fun e => hq2.1 (by omega), fun w => ?_⟩
        · have := h2 p p0 (by omega)
          rwa [zv_up_n (by omega)] at this
        · obtain ⟨-, -, w3⟩ := yc_N_t.mp w
          rw [Int.toNat_of_nonneg r1] at w3
          exact yc_J_t.mpr ⟨hs, hj, c1, h1, by rw [H.2.2.2 s j hs hj]; exact hq2.2 w3⟩
      · rintro ⟨⟨h1, h2⟩, h3, h4⟩
        refine ⟨h1, fun p p0 p1 => ?_⟩
        by_cases e : p = q
        · subst e
          rw [zv_up_s, Int.toNat_natCast]
          refine ⟨by omega, fun w => ?_⟩
          obtain ⟨-, -, -, -, w5⟩ := yc_J_t.mp (h4 (yc_N_t.mpr ⟨by omega, hb8, by rw [Int.toNat_of_nonneg r1]; exact w⟩))
          rw [H.2.2.2 j s hj hs]; exact w5
        · rw [zv_up_n e]; exact h2 p p0 (by omega)
    · rw [if_neg c, Bool.eq_false_iff.mpr c]; rfl
theorem ym_nl_mem (hn : yw_nmz ni Nn nm) : ∀ (r : Nat) (q : Int) (b : Nat), q + r = Nn → 0 ≤ q → (b ∈ ym_nl nm r q ↔ ∃ j, q ≤ j ∧ j < Nn ∧ nm j = b) := by
  obtain ⟨⟨m0, m1⟩, hinc, hrg, -⟩ := id hn
  intro r
  induction r with
  | zero => intro q b h1 h2; exact ⟨fun h => (by cases h), fun ⟨j, j1, j2, _⟩ => by omega⟩
  | succ r ih =>
    intro q b h1 h2
    obtain ⟨y1, y2, -⟩ := hrg q h2 (by omega)
    show b ∈ (nm q).toNat :: ym_nl nm r (q + 1) ↔ _
    rw [List.mem_cons, ih (q + 1) b (by omega) (by omega)]
    constructor
    · rintro (e | ⟨j, j1, j2, j3⟩)
      · exact ⟨q, Int.le_refl _, by omega, by omega⟩
      · exact ⟨j, by omega, j2, j3⟩
    · rintro ⟨j, j1, j2, j3⟩
      by_cases e : j = q
      · subst e; exact .inl (by omega)
      · exact .inr ⟨j, by omega, j2, j3⟩
theorem ym_nl_nd (hn : yw_nmz ni Nn nm) : ∀ (r : Nat) (q : Int), q + r = Nn → 0 ≤ q → (ym_nl nm r q).Nodup := by
  obtain ⟨⟨m0, m1⟩, hinc, hrg, -⟩ := id hn
  intro r
  induction r with
  | zero => intro q h1 h2; exact List.nodup_nil
  | succ r ih =>
    intro q h1 h2
    refine List.nodup_cons.mpr ⟨fun w => ?_, ih (q + 1) (by omega) (by omega)⟩
    obtain ⟨j, j1, j2, j3⟩ := (ym_nl_mem hn r (q + 1) _ (by omega) (by omega)).mp w
    have := hinc q j h2 (by omega) j2
    obtain ⟨y1, y2, -⟩ := hrg q h2 (by omega)
    omega
theorem yw_L_A (tl : yk_tl n ni nr fr to) (hn : yw_nmz ni Nn nm) (H : ym_H nr J) : (yw_L (yw_ok z n fr nm to J) Nn.toNat 0 (fun _ => 0)).length = ym_A z nr J ni := by
  obtain ⟨⟨m0, m1⟩, hinc, hrg, hcov⟩ := id hn
  rw [yw_L_len tl hn H Nn.toNat 0 _ (by omega) (Int.le_refl _) fun p p0 p1 => by omega]
  unfold ym_A
  rw [yc_set (yc_N_s H) (yc_J_s H) (ym_nl_nd hn Nn.toNat 0 (by omega) (Int.le_refl _)) (yc_ls_nd (f := zb ni) (n := 8)) fun b => ?_]
  · refine yc_cg fun b hb j hj => ?_
    rw [Bool.eq_iff_iff, ym_pr_t]
    exact ⟨fun h => h.1, fun h => ⟨h, fun p p0 p1 => by omega⟩⟩
  · rw [ym_nl_mem hn Nn.toNat 0 b (by omega) (Int.le_refl _), yc_ls_mem]
    constructor
    · rintro ⟨j, j1, j2, j3⟩
      obtain ⟨y1, y2, y3⟩ := hrg j j1 j2
      rw [j3, Int.toNat_natCast] at y3
      exact ⟨by omega, y3⟩
    · rintro ⟨h1, h2⟩; exact hcov b h1 h2
/-- a way goes on -/
theorem yw_L_ne (tl : yk_tl n ni nr fr to) (hn : yw_nmz ni Nn nm) (H : ym_H nr J) {W : Nat → Nat} (hW : ym_Y z nr J ni W) : ∀ (r : Nat) (q : Int) (S : Int → Int), q + r = Nn → 0 ≤ q → (∀ p, 0 ≤ p → p < q → S p = (W (nm p).toNat : Int)) →
    yw_L (yw_ok z n fr nm to J) r q S ≠ [] := by
  obtain ⟨⟨m0, m1⟩, hinc, hrg, hcov⟩ := id hn
  intro r
  induction r with
  | zero => intro q S _ _ _; exact List.cons_ne_nil _ _
  | succ r ih =>
    intro q S hq q0 hS
    obtain ⟨r1, r2, r3⟩ := hrg q q0 (by omega)
    have hm : (nm q).toNat ∈ yc_ls (zb ni) 8 := yc_ls_mem.mpr ⟨by omega, r3⟩
    obtain ⟨w1, w2⟩ := hW.1 _ hm
    refine yw_cat_ne (s := (W (nm q).toNat : Int)) ?_ 24 (Nat.le_refl _) (by omega) (by omega)
    have hok : yw_ok z n fr nm to J S q (W (nm q).toNat : Int) = true := yw_ok_t.mpr ⟨w2, fun p p0 p1 => by
      obtain ⟨y1, y2, y3⟩ := hrg p p0 (by omega)
      have := hinc p q p0 p1 (by omega)
      have hw := hW.2 _ (yc_ls_mem.mpr ⟨by omega, y3⟩) _ hm (show (nm p).toNat ≠ (nm q).toNat by omega)
      rw [hS p p0 p1]
      refine ⟨fun e => hw.1 (by omega), fun l => ?_⟩
      have hl := (yt_ln_b tl y1 (by omega) r1).mp l
      obtain ⟨v1, v2, -, -, v5⟩ := yc_J_t.mp (hw.2 (yc_N_t.mpr ⟨by omega, by omega, by rw [Int.toNat_of_nonneg y1]; exact hl⟩))
      rw [Int.toNat_natCast, H.2.2.2 _ _ v2 v1]; exact v5⟩
    show cond (yw_ok z n fr nm to J S q (W (nm q).toNat : Int)) (yw_L (yw_ok z n fr nm to J) r (q + 1) (zv_up S q (W (nm q).toNat : Int))) [] ≠ []
    rw [hok]
    refine ih (q + 1) _ (by omega) (by omega) fun p p0 p1 => ?_
    by_cases e : p = q
    · subst e; rw [zv_up_s]
    · rw [zv_up_n e]; exact hS p p0 (by omega)
theorem yw_L_head (tl : yk_tl n ni nr fr to) (hn : yw_nmz ni Nn nm) (H : ym_H nr J) : ∀ (r : Nat) (q : Int) (S X : Int → Int), q + r = Nn → 0 ≤ q → (∀ p, 0 ≤ p → p < q → (0 ≤ S p ∧ S p ≤ 23) ∧ yw_ok z n fr nm to J S p (S p) = true) → (yw_L (yw_ok z n fr nm to J) r q S).head? = some X →
    (∀ p, 0 ≤ p → p < q → X p = S p) ∧ (∀ p, 0 ≤ p → p < Nn → (0 ≤ X p ∧ X p ≤ 23) ∧ yw_ok z n fr nm to J X p (X p) = true) ∧ ∀ j, q ≤ j → j < Nn → ∀ W, ym_Y z nr J ni W → (∀ p, 0 ≤ p → p < j → X p = (W (nm p).toNat : Int)) → X j ≤ (W (nm j).toNat : Int) := by
  obtain ⟨⟨m0, m1⟩, hinc, hrg, hcov⟩ := id hn
  intro r
  induction r with
  | zero =>
    intro q S X hq q0 hS h
    have h : some S = some X := h
    cases h
    exact ⟨fun _ _ _ => rfl, fun p p0 p1 => hS p p0 (by omega), fun j j1 j2 => by omega⟩
  | succ r ih =>
    intro q S X hq q0 hS h
    obtain ⟨s, s0, s1, s2, s3⟩ := yw_cat_head 24 (Nat.le_refl _) h
    have s2 : (cond (yw_ok z n fr nm to J S q s) (yw_L (yw_ok z n fr nm to J) r (q + 1) (zv_up S q s)) []).head? = some X := s2
    have s3 : ∀ t : Int, 24 - ((24 : Nat) : Int) ≤ t → t < s → cond (yw_ok z n fr nm to J S q t) (yw_L (yw_ok z n fr nm to J) r (q + 1) (zv_up S q t)) [] = [] := s3
    cases hok : yw_ok z n fr nm to J S q s with
    | false => rw [hok] at s2; cases s2
    | true =>
      rw [hok] at s2
      have agr : ∀ p, 0 ≤ p → p < q → S p = zv_up S q s p := fun p _ p1 => by rw [zv_up_n (by omega)]
      have cg : ∀ p v, p ≤ q → yw_ok z n fr nm to J S p v = true → yw_ok z n fr nm to J (zv_up S q s) p v = true := fun p v p1 w => by
        obtain ⟨w1, w2⟩ := yw_ok_t.mp w
        exact yw_ok_t.mpr ⟨w1, (yw_P_cg fun p' p0' p1' => agr p' p0' (by omega)).mp w2⟩
      obtain ⟨i1, i2, i3⟩ := ih (q + 1) (zv_up S q s) X (by omega) (by omega) (fun p p0 p1 => by
        by_cases e : p = q
        · subst e; rw [zv_up_s]; exact ⟨by omega, cg p s (Int.le_refl _) hok⟩
        · rw [← agr p p0 (by omega)]; exact ⟨(hS p p0 (by omega)).1, cg p _ (by omega) (hS p p0 (by omega)).2⟩) s2
      have eq : X q = s := by rw [i1 q q0 (by omega), zv_up_s]
      have ep : ∀ p, 0 ≤ p → p < q → X p = S p := fun p p0 p1 => by rw [i1 p p0 (by omega), ← agr p p0 p1]
      refine ⟨ep, i2, fun j j1 j2 W hW hX => ?_⟩
      by_cases e : j = q
      · subst e
        by_cases lt : (W (nm j).toNat : Int) < X j
        · obtain ⟨y1, y2, y3⟩ := hrg j q0 (by omega)
          have hm : (nm j).toNat ∈ yc_ls (zb ni) 8 := yc_ls_mem.mpr ⟨by omega, y3⟩
          have h0 := s3 (W (nm j).toNat : Int) (by omega) (by omega)
          have ne := yw_L_ne tl hn H hW (r + 1) j S (by omega) q0 fun p p0 p1 => by rw [← ep p p0 p1]; exact hX p p0 p1
          have ne2 := yw_L_ne tl hn H hW r (j + 1) (zv_up S j (W (nm j).toNat : Int)) (by omega) (by omega) fun p p0 p1 => by
            by_cases e : p = j
            · subst e; rw [zv_up_s]
            · rw [zv_up_n e, ← ep p p0 (by omega)]; exact hX p p0 (by omega)
          have hok2 : yw_ok z n fr nm to J S j (W (nm j).toNat : Int) = true := yw_ok_t.mpr ⟨(hW.1 _ hm).2, fun p p0 p1 => by
            obtain ⟨z1, z2, z3⟩ := hrg p p0 (by omega)
            have := hinc p j p0 p1 (by omega)
            have hw := hW.2 _ (yc_ls_mem.mpr ⟨by omega, z3⟩) _ hm (show (nm p).toNat ≠ (nm j).toNat by omega)
            rw [← ep p p0 p1, hX p p0 p1]
            refine ⟨fun e => hw.1 (by omega), fun l => ?_⟩
            have hl := (yt_ln_b tl z1 (by omega) y1).mp l
            obtain ⟨v1, v2, -, -, v5⟩ := yc_J_t.mp (hw.2 (yc_N_t.mpr ⟨by omega, by omega, by rw [Int.toNat_of_nonneg z1]; exact hl⟩))
            rw [Int.toNat_natCast, H.2.2.2 _ _ v2 v1]; exact v5⟩
          rw [hok2] at h0
          exact absurd h0 ne2
        · omega
      · exact i3 j (by omega) j2 W hW hX
/-- the first of the reference's ways is the first of all -/
theorem yw_L_F (tl : yk_tl n ni nr fr to) (hn : yw_nmz ni Nn nm) (H : ym_H nr J) {X : Int → Int} (h : (yw_L (yw_ok z n fr nm to J) Nn.toNat 0 (fun _ => 0)).head? = some X) : ∃ W, ym_F z nr J ni W ∧ ∀ j, 0 ≤ j → j < Nn → X j = (W (nm j).toNat : Int) := by
  obtain ⟨⟨m0, m1⟩, hinc, hrg, hcov⟩ := id hn
  obtain ⟨-, h2, h3⟩ := yw_L_head tl hn H Nn.toNat 0 _ X (by omega) (Int.le_refl _) (fun p p0 p1 => by omega) h
  have inj : ∀ i j, 0 ≤ i → i < Nn → 0 ≤ j → j < Nn → nm i = nm j → i = j := fun i j i0 i1 j0 j1 e => by
    by_cases a : i < j
    · have := hinc i j i0 a j1; omega
    · by_cases b : j < i
      · have := hinc j i j0 b i1; omega
      · omega
  have ex : ∀ b : Nat, ∃ v : Nat, ∀ j, 0 ≤ j → j < Nn → nm j = b → X j = v := fun b => by
    by_cases c : ∃ j, 0 ≤ j ∧ j < Nn ∧ nm j = b
    · obtain ⟨j, j0, j1, j2⟩ := c
      refine ⟨(X j).toNat, fun i i0 i1 i2 => ?_⟩
      rw [inj i j i0 i1 j0 j1 (by omega), Int.toNat_of_nonneg (h2 j j0 j1).1.1]
    · exact ⟨0, fun j j0 j1 j2 => absurd ⟨j, j0, j1, j2⟩ c⟩
  obtain ⟨W, hW⟩ : ∃ W : Nat → Nat, ∀ b : Nat, ∀ j, 0 ≤ j → j < Nn → nm j = b → X j = W b := ⟨fun b => Classical.choose (ex b), fun b => Classical.choose_spec (ex b)⟩
  have hWX : ∀ j, 0 ≤ j → j < Nn → X j = (W (nm j).toNat : Int) := fun j j0 j1 => hW _ j j0 j1 (Int.toNat_of_nonneg (hrg j j0 j1).1).symm
  have idx : ∀ b : Nat, b < 8 → zb ni b = true → ∃ j, 0 ≤ j ∧ j < Nn ∧ nm j = b ∧ X j = W b := fun b b1 b2 => by
    obtain ⟨j, j0, j1, j2⟩ := hcov b b1 b2
    exact ⟨j, j0, j1, j2, hW b j j0 j1 j2⟩
  refine ⟨W, ⟨⟨fun b hb => ?_, fun b hb c hc hbc => ?_⟩, fun b b1 b2 V hV hVW => ?_⟩, hWX⟩
  · obtain ⟨b1, b2⟩ := yc_ls_mem.mp hb
    obtain ⟨j, j0, j1, j2, j3⟩ := idx b b1 b2
    obtain ⟨⟨k1, k2⟩, k3⟩ := h2 j j0 j1
    have k4 := (yw_ok_t.mp k3).1
    rw [j3, Int.toNat_natCast] at k4
    exact ⟨by omega, k4⟩
  · obtain ⟨b1, b2⟩ := yc_ls_mem.mp hb
    obtain ⟨c1, c2⟩ := yc_ls_mem.mp hc
    obtain ⟨j, j0, j1, j2, j3⟩ := idx b b1 b2
    obtain ⟨i, i0, i1, i2, i3⟩ := idx c c1 c2
    obtain ⟨⟨k1, k2⟩, k3⟩ := h2 j j0 j1
    obtain ⟨⟨l1, l2⟩, l3⟩ := h2 i i0 i1
    obtain ⟨u1, u2⟩ := yw_ok_t.mp k3
    obtain ⟨v1, v2⟩ := yw_ok_t.mp l3
    rw [j3, Int.toNat_natCast] at u1
    rw [i3, Int.toNat_natCast] at v1
    by_cases lt : j < i
    · have q := v2 j j0 lt
      rw [j3, i3, Int.toNat_natCast] at q
      refine ⟨fun e => q.1 (by omega), fun w => yc_J_t.mpr ⟨by omega, by omega, u1, v1, ?_⟩⟩
      rw [H.2.2.2 _ _ (by omega) (by omega)]
      exact q.2 ((yt_ln_b tl (by omega) (by omega) (by omega)).mpr (by rw [j2, i2, Int.toNat_natCast]; exact (yc_N_t.mp w).2.2))
    · have lt : i < j := by
        by_cases e : i = j
        · subst e; omega
        · omega
      have q := u2 i i0 lt
      rw [j3, i3, Int.toNat_natCast] at q
      refine ⟨fun e => q.1 (by omega), fun w => yc_J_t.mpr ⟨by omega, by omega, u1, v1, ?_⟩⟩
      refine q.2 ((yt_ln_b tl (by omega) (by omega) (by omega)).mpr ?_)
      rw [j2, i2, Int.toNat_natCast, H.2.1 c b c1 b1]
      exact (yc_N_t.mp w).2.2
  · obtain ⟨j, j0, j1, j2, j3⟩ := idx b b1 b2
    have q := h3 j j0 j1 V hV fun p p0 p1 => by
      obtain ⟨y1, y2, y3⟩ := hrg p p0 (by omega)
      have := hinc p j p0 p1 j1
      rw [hWX p p0 (by omega), hVW (nm p).toNat (by omega) y3]
    rw [j3, j2, Int.toNat_natCast] at q
    omega
end YCR
end
section
/-! The matcher counts all ways, and finds the first. -/
def ym_Lg (z : Int) (nr J g : Int → Int) (b : Nat) : Prop := z24 (g b) ∧ ∀ q : Nat, zb (g b) q = (decide (q < 24) && (zb z q && decide (zs_sum (nr b) 24 ≤ zs_sum (zi_and (J q) z) 24)))
theorem zh_and {α : Type} {x : Option α} {P Q : α → Prop} (h1 : zh_ok x P) (h2 : zh_ok x Q) : zh_ok x fun o => P o ∧ Q o := by
  obtain ⟨o, e1, p⟩ := h1
  obtain ⟨o2, e2, q⟩ := h2
  rw [e1] at e2
  cases e2
  exact ⟨o, e1, p, q⟩
section YCF
variable {z ni : Int} {nr J : Int → Int}
theorem ym_lg (H : ym_H nr J) (HN : ∀ a : Nat, a < 8 → ∀ b, zb (nr a) b = true → b < 8 ∧ zb ni b = true) (hz : z24 z) {V : Nat → Nat} (hV : ym_Y z nr J ni V) {b : Nat} (hb : b < 8) (hx : zb ni b = true) : zs_sum (nr b) 24 ≤ zs_sum (zi_and (J (V b)) z) 24 := by
  have hm : b ∈ yc_ls (zb ni) 8 := yc_ls_mem.mpr ⟨hb, hx⟩
  have hv := (hV.1 b hm).1
  have z1 := (H.1 b hb).1
  have z2 := z24_and (b := z) (H.2.2.1 (V b) hv).1
  rw [yn_sum z1.1 (by have := z1.2; omega) 24, yn_sum z2.1 (by have := z2.2; omega) 24]
  have l := yc_legs (z := zb z) (fun _ _ j h => h) hV hm (f := zb (nr b)) (n := 24) fun c c1 c2 => by
    obtain ⟨d1, d2⟩ := HN b hb c c2
    exact ⟨yc_ls_mem.mpr ⟨d1, d2⟩, (fun e => by subst e; rw [(H.1 c hb).2.2] at c2; cases c2), yc_N_t.mpr ⟨hb, d1, c2⟩⟩
  have l2 := yn_le (f := fun j => yc_J z J (V b) j && zb z j) (g := zb (zi_and (J (V b)) z)) 24 fun j hj h => by
    rw [Bool.and_eq_true] at h
    rw [zb_and, (yc_J_t.mp h.1).2.2.2.2, h.2]; rfl
  omega
theorem ym_lg_tw (H : ym_H nr J) {p q : Nat} (hp : p < 24) (hq : q < 24) (ht : ym_tw z J p q) : zs_sum (zi_and (J p) z) 24 = zs_sum (zi_and (J q) z) 24 := by
  have z1 := z24_and (b := z) (H.2.2.1 p hp).1
  have z2 := z24_and (b := z) (H.2.2.1 q hq).1
  rw [yn_sum z1.1 (by have := z1.2; omega) 24, yn_sum z2.1 (by have := z2.2; omega) 24]
  by_cases e : p = q
  · rw [e]
  have other : ∀ x : Nat, x < 24 → x ≠ p → x ≠ q → zb (zi_and (J p) z) x = zb (zi_and (J q) z) x := fun x hx xp xq => by
    rw [zb_and, zb_and]
    by_cases zx : zb z x = true
    · rw [ht.2.2 x hx zx xp xq]
    · rw [Bool.eq_false_iff.mpr zx, Bool.and_false, Bool.and_false]
  have fpp : zb (zi_and (J p) z) p = false := by rw [zb_and, (H.2.2.1 p hp).2, Bool.false_and]
  have gqq : zb (zi_and (J q) z) q = false := by rw [zb_and, (H.2.2.1 q hq).2, Bool.false_and]
  by_cases c : zb (J p) q = true
  · have fpq : zb (zi_and (J p) z) q = true := by rw [zb_and, c, ht.2.1]; rfl
    have gqp : zb (zi_and (J q) z) p = true := by rw [zb_and, H.2.2.2 q p hq hp, c, ht.1]; rfl
    have a := yn_add (f := fun x => zb (zi_and (J p) z) x && !decide (x = q)) (g := zb (zi_and (J p) z)) (k := q) (by rw [decide_eq_true rfl, Bool.not_true, Bool.and_false]) fpq 24 hq fun j _ hj => by rw [decide_eq_false hj, Bool.not_false, Bool.and_true]
    have b := yn_add (f := fun x => zb (zi_and (J p) z) x && !decide (x = q)) (g := zb (zi_and (J q) z)) (k := p) (by rw [fpp, Bool.false_and]) gqp 24 hp fun j hj hjp => by
      by_cases ejq : j = q
      · subst ejq; rw [decide_eq_true rfl, Bool.not_true, Bool.and_false, gqq]
      · rw [decide_eq_false ejq, Bool.not_false, Bool.and_true]; exact other j hj hjp ejq
    omega
  · refine yn_eq 24 fun j hj => ?_
    by_cases ejp : j = p
    · subst ejp
      rw [fpp, zb_and, H.2.2.2 q j hq hp, Bool.eq_false_iff.mpr c, Bool.false_and]
    · by_cases ejq : j = q
      · subst ejq
        rw [gqq, zb_and, Bool.eq_false_iff.mpr c, Bool.false_and]
      · exact other j hj ejp ejq
theorem ym_I_first (H : ym_H nr J) {g : Int → Int} {i : Nat} {sx : Nat → Nat} (hl : ∀ b : Nat, b < 8 → zb ni b = true → i ≤ b → ym_Lg z nr J g b) (hs : ∀ b : Nat, b < 8 → zb ni b = true → b < i → g b = zi_shl 1 (sx b : Int) ∧ sx b < 24 ∧ zb z (sx b) = true) : ym_I z J (fun b => b < i ∧ zb ni b = true) sx (fun _ => False) (8 * 0) ni g := by
  have e : ∀ b : Nat, g (8 * 0 + (b : Int)) = g b := fun b => by rw [show (8 * 0 + (b : Int)) = (b : Int) by omega]
  have sb : ∀ b : Nat, b < 8 → zb ni b = true → b < i → ∀ j, zb (g b) j = true → j = sx b := fun b b1 b2 b3 j hj => by
    obtain ⟨s1, s2, s3⟩ := hs b b1 b2 b3
    rw [s1, zb_shl (by omega) (by omega), decide_eq_true_iff, Int.toNat_natCast] at hj
    exact hj
  refine ⟨fun b hb hx => ?_, fun b hb hx hf j hj => ?_, fun b hb hf => .inl hf.2, fun b hb hx hf p q hp hq ht _ _ _ hbp => ?_⟩
  · rw [e b]
    by_cases c : b < i
    · obtain ⟨s1, s2, s3⟩ := hs b hb hx c
      refine ⟨by rw [s1]; exact z24_shl (by omega) (by omega), fun j hj => ⟨?_, fun w => w⟩⟩
      rw [sb b hb hx c j hj]; exact s3
    · obtain ⟨l1, l2⟩ := hl b hb hx (by omega)
      refine ⟨l1, fun j hj => ⟨?_, fun w => w⟩⟩
      rw [l2 j, Bool.and_eq_true, Bool.and_eq_true] at hj
      exact hj.2.1
  · rw [e b] at hj
    exact sb b hb hx hf.1 j hj
  · rw [e b] at hbp ⊢
    obtain ⟨l1, l2⟩ := hl b hb hx (by
      by_cases c : b < i
      · exact absurd ⟨c, hx⟩ hf
      · omega)
    rw [l2, Bool.and_eq_true, Bool.and_eq_true] at hbp ⊢
    exact ⟨decide_eq_true hq, ht.2.1, by rw [← ym_lg_tw H hp hq ht]; exact hbp.2.2⟩
/-- ways by such rows: those of all that begin so -/
theorem ym_C_first (H : ym_H nr J) (HN : ∀ a : Nat, a < 8 → ∀ b, zb (nr a) b = true → b < 8 ∧ zb ni b = true) (hz : z24 z) {g : Int → Int} {i : Nat} {sx : Nat → Nat} (hl : ∀ b : Nat, b < 8 → zb ni b = true → i ≤ b → ym_Lg z nr J g b) (hs : ∀ b : Nat, b < 8 → zb ni b = true → b < i → g b = zi_shl 1 (sx b : Int) ∧ sx b < 24 ∧ zb z (sx b) = true) :
    (0 < ym_C z nr J (8 * 0) ni g ↔ ∃ V, ym_Y z nr J ni V ∧ ∀ c : Nat, c < 8 → c < i → zb ni c = true → V c = sx c) ∧ (∀ S : Int → Int, ym_W z nr J (8 * 0) ni g S → ym_Y z nr J ni (fun b => (S b).toNat) ∧ (∀ c : Nat, c < 8 → c < i → zb ni c = true → (S c).toNat = sx c) ∧ ∀ b : Nat, b < 8 → zb ni b = true → 0 ≤ S b) := by
  have e : ∀ b : Nat, g (8 * 0 + (b : Int)) = g b := fun b => by rw [show (8 * 0 + (b : Int)) = (b : Int) by omega]
  have sb : ∀ b : Nat, b < 8 → zb ni b = true → b < i → ∀ j, zb (g b) j = true → j = sx b := fun b b1 b2 b3 j hj => by
    obtain ⟨s1, s2, s3⟩ := hs b b1 b2 b3
    rw [s1, zb_shl (by omega) (by omega), decide_eq_true_iff, Int.toNat_natCast] at hj
    exact hj
  have hI := ym_I_first H hl hs
  have up : ∀ W : Nat → Nat, yc_w (yc_N nr) (yc_J z J) (yc_R g (8 * 0)) (yc_ls (zb ni) 8) W → ym_Y z nr J ni W ∧ ∀ c : Nat, c < 8 → c < i → zb ni c = true → W c = sx c := fun W hW => by
    refine ⟨yc_w_row hW fun b hb => ?_, fun c c1 c2 c3 => ?_⟩
    · obtain ⟨b1, b2⟩ := yc_ls_mem.mp hb
      exact ((hI.1 b b1 b2).2 _ (hW.1 b hb).2).1
    · have hr : zb (g (8 * 0 + (c : Int))) (W c) = true := (hW.1 c (yc_ls_mem.mpr ⟨c1, c3⟩)).2
      rw [e c] at hr
      exact sb c c1 c3 c2 _ hr
  refine ⟨⟨fun h => ?_, fun ⟨V, hV, hV2⟩ => ?_⟩, fun S hS => ⟨(up _ hS.1).1, (up _ hS.1).2, hS.2⟩⟩
  · obtain ⟨W, hW⟩ := yc_pos2 (yc_N_s H) (yc_J_s H) yc_ls_nd h
    exact ⟨W, up W hW⟩
  · refine yc_pos1 (yc_N_s H) (yc_J_s H) (S := V) yc_ls_nd (yc_w_row hV fun b hb => ?_)
    obtain ⟨b1, b2⟩ := yc_ls_mem.mp hb
    show zb (g (8 * 0 + (b : Int))) (V b) = true
    rw [e b]
    by_cases c : b < i
    · obtain ⟨s1, s2, s3⟩ := hs b b1 b2 c
      rw [s1, zb_shl (by omega) (by omega), decide_eq_true_iff, Int.toNat_natCast]
      exact hV2 b b1 c b2
    · rw [(hl b b1 b2 (by omega)).2, decide_eq_true (hV.1 b hb).1, show zb z (V b) = true from (hV.1 b hb).2, decide_eq_true (ym_lg H HN hz hV b1 b2)]; rfl
theorem ym_count (H : ym_H nr J) (HN : ∀ a : Nat, a < 8 → ∀ b, zb (nr a) b = true → b < 8 ∧ zb ni b = true) (hz : z24 z) (hni : z24 ni) (hn8 : ∀ b, zb ni b = true → b < 8) {most f2 : Int} {g1 g3 g4 : Int → Int} (m1 : 1 ≤ most) (m2 : most ≤ 10000) :
    zh_ok (zf_Matcher_countWays_24 z most f2 ni J g1 nr g3 g4) fun o => o.1 = (if (ym_A z nr J ni : Int) < most then (ym_A z nr J ni : Int) else most) ∧ (most = 1 → 0 < o.1 → ym_Y z nr J ni (fun b => (o.2.2.2.2 b).toNat) ∧ ∀ b : Nat, b < 8 → zb ni b = true → 0 ≤ o.2.2.2.2 b) := by
  unfold zf_Matcher_countWays_24
  refine zh_bind (ym_begin (fun i hi => (H.2.2.1 i hi).1) fun j hj => (H.1 j hj).1) fun r1 h1 => ?_
  obtain ⟨-, hrow, htw⟩ := h1
  have hl : ∀ b : Nat, b < 8 → zb ni b = true → 0 ≤ b → ym_Lg z nr J r1.2.1 b := fun b b1 _ _ => hrow b b1
  have hs : ∀ b : Nat, b < 8 → zb ni b = true → b < 0 → r1.2.1 b = zi_shl 1 (((fun _ => 0 : Nat → Nat) b : Nat) : Int) ∧ (fun _ => 0 : Nat → Nat) b < 24 ∧ zb z ((fun _ => 0 : Nat → Nat) b) = true := fun b _ _ b3 => absurd b3 (Nat.not_lt_zero b)
  have hI := ym_I_first (z := z) H hl hs
  have hA : ym_C z nr J (8 * 0) ni r1.2.1 = ym_A z nr J ni := by
    have e : ∀ b : Nat, r1.2.1 (8 * 0 + (b : Int)) = r1.2.1 b := fun b => by rw [show (8 * 0 + (b : Int)) = (b : Int) by omega]
    refine yc_prune (yc_N_s H) (yc_J_s H) yc_ls_nd (fun b hb j _ hj => ?_) fun V hV b hb => ?_
    · obtain ⟨b1, b2⟩ := yc_ls_mem.mp hb
      exact ((hI.1 b b1 b2).2 j hj).1
    · obtain ⟨b1, b2⟩ := yc_ls_mem.mp hb
      show zb (r1.2.1 (8 * 0 + (b : Int))) (V b) = true
      rw [e b, (hrow b b1).2, decide_eq_true (hV.1 b hb).1, show zb z (V b) = true from (hV.1 b hb).2, decide_eq_true (ym_lg H HN hz hV b1 b2)]; rfl
  have hc8 : yn_n (zb ni) 8 ≤ 8 := (yn_in 8).2
  refine zh_bind (ym_search H htw 9 0 0 ni most r1.1 r1.2.1 g4 (fun _ => False) (by decide) (by omega) (by decide) m1 m2 hni hn8 hI) fun r2 h2 => zh_ret ?_
  obtain ⟨q1, -, -, q4⟩ := h2
  rw [hA] at q1
  exact ⟨q1, fun e1 e2 => by
    obtain ⟨c1, -, c3⟩ := (ym_C_first H HN hz hl hs).2 _ (q4 e1 e2)
    exact ⟨c1, c3⟩⟩
theorem ym_settle (H : ym_H nr J) (HN : ∀ a : Nat, a < 8 → ∀ b, zb (nr a) b = true → b < 8 ∧ zb ni b = true) (hz : z24 z) (hni : z24 ni) (hn8 : ∀ b, zb ni b = true → b < 8) {T : Int → Int} (hT : ∀ p : Nat, p < 24 → ∀ q, zb (T p) q = true ↔ q < 24 ∧ (q = p ∨ ym_tw z J p q)) {f3 : Int} {g S : Int → Int} {b0 : Nat} (hb0 : b0 < 8) (hx0 : zb ni b0 = true) {sx : Nat → Nat}
    (hl : ∀ b : Nat, b < 8 → zb ni b = true → b0 ≤ b → ym_Lg z nr J g b) (hs : ∀ b : Nat, b < 8 → zb ni b = true → b < b0 → g b = zi_shl 1 (sx b : Int) ∧ sx b < 24 ∧ zb z (sx b) = true) :
    zh_ok (zf_Matcher_settleLowest (b0 : Int) ni f3 g nr T S J) fun o => (o.1 = 1 ∧ ∃ m : Nat, m < 24 ∧ zb z m = true ∧ (∀ b : Nat, b < 8 → b ≠ b0 → o.2.2.1 b = g b) ∧ o.2.2.1 b0 = zi_shl 1 (m : Int) ∧ (∀ V, ym_Y z nr J ni V → (∀ c : Nat, c < b0 → zb ni c = true → V c = sx c) → m ≤ V b0) ∧ ym_Y z nr J ni (fun b => (o.2.2.2 b).toNat) ∧ (∀ c : Nat, c < b0 → zb ni c = true → (o.2.2.2 c).toNat = sx c) ∧ (o.2.2.2 b0).toNat = m ∧ ∀ b : Nat, b < 8 → zb ni b = true → 0 ≤ o.2.2.2 b) ∨
      (o.1 = 0 ∧ ∀ V, ym_Y z nr J ni V → ¬ ∀ c : Nat, c < b0 → zb ni c = true → V c = sx c) := by
  unfold zf_Matcher_settleLowest
  rw [zl_ci (a := (b0 : Int)) (by omega) (by omega)]
  have lg := hl b0 hb0 hx0 (Nat.le_refl _)
  have hm0 : b0 ∈ yc_ls (zb ni) 8 := yc_ls_mem.mpr ⟨hb0, hx0⟩
  refine zh_sum (Q := fun q => match q with
    | .inl a => ∀ V, ym_Y z nr J ni V → ¬ ∀ c : Nat, c < b0 → zb ni c = true → V c = sx c
    | .inr o => o.1 = 1 ∧ ∃ m : Nat, m < 24 ∧ zb z m = true ∧ (∀ b : Nat, b < 8 → b ≠ b0 → o.2.2.1 b = g b) ∧ o.2.2.1 b0 = zi_shl 1 (m : Int) ∧ (∀ V, ym_Y z nr J ni V → (∀ c : Nat, c < b0 → zb ni c = true → V c = sx c) → m ≤ V b0) ∧ ym_Y z nr J ni (fun b => (o.2.2.2 b).toNat) ∧ (∀ c : Nat, c < b0 → zb ni c = true → (o.2.2.2 c).toNat = sx c) ∧ (o.2.2.2 b0).toNat = m ∧ ∀ b : Nat, b < 8 → zb ni b = true → 0 ≤ o.2.2.2 b)
    (zh_loop (F := fun n i (a : Int × (Int → Int) × (Int → Int)) => zf_Matcher_settleLowest_l0 (b0 : Int) (g b0) ni nr T J n i a.1 a.2.1 a.2.2) (N := 24) (I := fun i a => (∀ b : Nat, b < 8 → b ≠ b0 → a.2.1 b = g b) ∧ ∀ V, ym_Y z nr J ni V → (∀ c : Nat, c < b0 → zb ni c = true → V c = sx c) → i ≤ (V b0 : Int)) (fun n i a i0 i1 hI k => ?_) 24 0 (f3, g, S) zi_fu (by decide) (by decide) (by decide) (by decide) ⟨fun _ _ _ => rfl, fun V _ _ => by omega⟩) (fun a ha => zh_ret (.inr ⟨rfl, ha⟩)) fun o ho => zh_ret (.inl ho)
  obtain ⟨f, g0, S0⟩ := a
  obtain ⟨I1, I2⟩ := hI
  have I1 : ∀ b : Nat, b < 8 → b ≠ b0 → g0 b = g b := I1
  show zh_ok (zf_Matcher_settleLowest_l0_b (b0 : Int) (g b0) ni nr T J (zf_Matcher_settleLowest_l0 (b0 : Int) (g b0) ni nr T J n) i f g0 S0) _
  unfold zf_Matcher_settleLowest_l0_b
  refine zh_ite (fun hi => ?_) fun hi => zh_ret fun V hV hp => by
    have := I2 V hV hp
    have := (hV.1 b0 hm0).1
    omega
  obtain ⟨m, rfl⟩ : ∃ m : Nat, i = m := ⟨i.toNat, by omega⟩
  have hm : m < 24 := by omega
  rw [zi_w_id (x := (m : Int) + 1) (by omega) (by omega)]
  have next : (∀ V, ym_Y z nr J ni V → (∀ c : Nat, c < b0 → zb ni c = true → V c = sx c) → V b0 ≠ m) → ∀ V, ym_Y z nr J ni V → (∀ c : Nat, c < b0 → zb ni c = true → V c = sx c) → (m : Int) + 1 ≤ (V b0 : Int) := fun h V hV hp => by
    have := I2 V hV hp
    have := h V hV hp
    omega
  by_cases hb : zb (g b0) m = true
  · rw [zb_bit1 (t := g b0) (i := (m : Int)) i0 (by omega) hb, if_neg (show ¬ (1 : Int) = 0 by decide), zl_ci (a := (b0 : Int)) (by omega) (by omega)]
    have zm : zb z m = true := by
      rw [lg.2, Bool.and_eq_true, Bool.and_eq_true] at hb
      exact hb.2.1
    obtain ⟨sx2, e2⟩ : ∃ sx2 : Nat → Nat, sx2 = fun b => if b = b0 then m else sx b := ⟨_, rfl⟩
    have e20 : sx2 b0 = m := by rw [e2]; exact if_pos rfl
    have e2n : ∀ b, b ≠ b0 → sx2 b = sx b := fun b hne => by rw [e2]; exact if_neg hne
    have hl2 : ∀ b : Nat, b < 8 → zb ni b = true → b0 + 1 ≤ b → ym_Lg z nr J (zv_up g0 (b0 : Int) (zi_shl 1 (m : Int))) b := fun b b1 b2 b3 => by
      unfold ym_Lg
      rw [zv_up_n (by omega), I1 b b1 (by omega)]
      exact hl b b1 b2 (by omega)
    have hs2 : ∀ b : Nat, b < 8 → zb ni b = true → b < b0 + 1 → zv_up g0 (b0 : Int) (zi_shl 1 (m : Int)) b = zi_shl 1 (sx2 b : Int) ∧ sx2 b < 24 ∧ zb z (sx2 b) = true := fun b b1 b2 b3 => by
      by_cases e : b = b0
      · subst e; rw [zv_up_s, e20]; exact ⟨rfl, hm, zm⟩
      · rw [zv_up_n (by omega), I1 b b1 e, e2n b e]
        exact hs b b1 b2 (by omega)
    obtain ⟨C1, C2⟩ := ym_C_first H HN hz hl2 hs2
    have hc8 : yn_n (zb ni) 8 ≤ 8 := (yn_in 8).2
    refine zh_bind (ym_search H hT 9 0 0 ni 1 f (zv_up g0 (b0 : Int) (zi_shl 1 (m : Int))) S0 (fun _ => False) (by decide) (by omega) (by decide) (by decide) (by decide) hni hn8 (ym_I_first H hl2 hs2)) fun r5 h5 => ?_
    obtain ⟨q1, q2, q3, q4⟩ := h5
    refine zh_ite (fun hp => zh_ret ⟨rfl, m, hm, zm, fun b b1 b2 => ?_, ?_, ?_, ?_⟩) fun hn => k (_, _, _) hi ⟨fun b b1 b2 => ?_, next fun V hV hp e => ?_⟩
    · show r5.2.2.1 b = g b
      rw [q2 b (by omega), zv_up_n (by omega)]; exact I1 b b1 b2
    · show r5.2.2.1 b0 = _
      rw [q2 b0 (by omega), zv_up_s]
    · intro V hV hp
      have := I2 V hV hp
      omega
    · obtain ⟨d1, d2, d3⟩ := C2 _ (q4 rfl hp)
      refine ⟨d1, fun c c1 c2 => ?_, ?_, d3⟩
      · rw [← e2n c (by omega)]; exact d2 c (by omega) (by omega) c2
      · rw [← e20]; exact d2 b0 hb0 (by omega) hx0
    · show r5.2.2.1 b = g b
      rw [q2 b (by omega), zv_up_n (by omega)]; exact I1 b b1 b2
    · have hC : 0 < ym_C z nr J (8 * 0) ni (zv_up g0 (b0 : Int) (zi_shl 1 (m : Int))) := C1.mpr ⟨V, hV, fun c c1 c2 c3 => by
        by_cases ec : c = b0
        · subst ec; rw [e20]; exact e
        · rw [e2n c ec]; exact hp c (by omega) c3⟩
      rw [q1] at hn
      split at hn <;> omega
  · rw [zb_bit0 (t := g b0) (i := (m : Int)) i0 (by omega) hb, if_pos rfl]
    refine k (f, g0, S0) hi ⟨I1, next fun V hV hp e => hb ?_⟩
    rw [← e, lg.2, decide_eq_true (hV.1 b0 hm0).1, show zb z (V b0) = true from (hV.1 b0 hm0).2, decide_eq_true (ym_lg H HN hz hV hb0 hx0)]; rfl
theorem ym_first (H : ym_H nr J) (HN : ∀ a : Nat, a < 8 → ∀ b, zb (nr a) b = true → b < 8 ∧ zb ni b = true) (hz : z24 z) (hni : z24 ni) (hn8 : ∀ b, zb ni b = true → b < 8) (hne : ∃ b : Nat, b < 8 ∧ zb ni b = true) {f2 : Int} {g1 g3 g4 : Int → Int} :
    zh_ok (zf_Matcher_findFirst_24 z f2 ni J g1 nr g3 g4) fun o => (o.1 = 1 ∧ ym_F z nr J ni (fun b => (o.2.2.2.2 b).toNat) ∧ ∀ b : Nat, b < 8 → zb ni b = true → 0 ≤ o.2.2.2.2 b) ∨ (o.1 = 0 ∧ ∀ V, ¬ ym_Y z nr J ni V) := by
  unfold zf_Matcher_findFirst_24
  refine zh_bind (ym_begin (fun i hi => (H.2.2.1 i hi).1) fun j hj => (H.1 j hj).1) fun r1 h1 => ?_
  obtain ⟨-, hrow, htw⟩ := h1
  refine zh_sum (Q := fun q => match q with
    | .inl a => ym_F z nr J ni (fun b => (a.2.2 b).toNat) ∧ ∀ b : Nat, b < 8 → zb ni b = true → 0 ≤ a.2.2 b
    | .inr o => o.1 = 0 ∧ ∀ V, ¬ ym_Y z nr J ni V)
    (zh_loop (F := fun n i (a : Int × (Int → Int) × (Int → Int)) => zf_Matcher_findFirst_24_l0 ni J nr r1.2.2 n i a.1 a.2.1 a.2.2) (N := 8) (I := fun i a => ∃ sx : Nat → Nat, (∀ b : Nat, b < 8 → zb ni b = true → i ≤ (b : Int) → ym_Lg z nr J a.2.1 b) ∧ (∀ b : Nat, b < 8 → zb ni b = true → (b : Int) < i → a.2.1 b = zi_shl 1 (sx b : Int) ∧ sx b < 24 ∧ zb z (sx b) = true) ∧
      (∀ b : Nat, b < 8 → zb ni b = true → (b : Int) < i → ∀ V, ym_Y z nr J ni V → (∀ c : Nat, c < b → zb ni c = true → V c = sx c) → sx b ≤ V b) ∧ ((∃ c : Nat, (c : Int) < i ∧ zb ni c = true) → ym_Y z nr J ni (fun b => (a.2.2 b).toNat) ∧ (∀ c : Nat, (c : Int) < i → zb ni c = true → (a.2.2 c).toNat = sx c) ∧ ∀ b : Nat, b < 8 → zb ni b = true → 0 ≤ a.2.2 b)) (fun n i a i0 i1 hI k => ?_) 8 0 (r1.1, r1.2.1, g4) zi_fu (by decide) (by decide) (by decide) (by decide)
      ⟨fun _ => 0, fun b b1 _ _ => hrow b b1, fun b _ _ b3 => by omega, fun b _ _ b3 => by omega, fun ⟨c, c1, _⟩ => by omega⟩) (fun a ha => zh_ret (.inl ⟨rfl, ha⟩)) fun o ho => zh_ret (.inr ho)
  obtain ⟨f, g, S⟩ := a
  obtain ⟨sx, I1, I2, I3, I4⟩ := hI
  show zh_ok (zf_Matcher_findFirst_24_l0_b ni J nr r1.2.2 (zf_Matcher_findFirst_24_l0 ni J nr r1.2.2 n) i f g S) _
  unfold zf_Matcher_findFirst_24_l0_b
  refine zh_ite (fun hi => ?_) fun hi => zh_ret ?_
  · obtain ⟨b0, rfl⟩ : ∃ b0 : Nat, i = b0 := ⟨i.toNat, by omega⟩
    rw [zi_w_id (x := (b0 : Int) + 1) (by omega) (by omega)]
    by_cases hb : zb ni b0 = true
    · rw [zb_bit1 (t := ni) (i := (b0 : Int)) i0 (by omega) hb, if_neg (show ¬ (1 : Int) = 0 by decide)]
      refine zh_bind (ym_settle H HN hz hni hn8 htw (by omega : b0 < 8) hb (fun b b1 b2 b3 => I1 b b1 b2 (by omega)) fun b b1 b2 b3 => I2 b b1 b2 (by omega)) fun r4 h4 => ?_
      rcases h4 with ⟨q0, m, q1, q2, q3, q4, q5, q6, q7, q8, q9⟩ | ⟨q0, q1⟩
      · rw [if_neg (by rw [q0]; decide)]
        obtain ⟨sx2, e2⟩ : ∃ sx2 : Nat → Nat, sx2 = fun b => if b = b0 then m else sx b := ⟨_, rfl⟩
        have e20 : sx2 b0 = m := by rw [e2]; exact if_pos rfl
        have e2n : ∀ b, b ≠ b0 → sx2 b = sx b := fun b hne => by rw [e2]; exact if_neg hne
        refine k (_, _, _) hi ⟨sx2, fun b b1 b2 b3 => ?_, fun b b1 b2 b3 => ?_, fun b b1 b2 b3 V hV hp => ?_, fun _ => ⟨q6, fun c c1 c2 => ?_, q9⟩⟩
        · show ym_Lg z nr J r4.2.2.1 b
          unfold ym_Lg
          rw [q3 b b1 (by omega)]
          exact I1 b b1 b2 (by omega)
        · show r4.2.2.1 b = _ ∧ _
          by_cases e : b = b0
          · subst e; rw [q4, e20]; exact ⟨rfl, q1, q2⟩
          · rw [q3 b b1 e, e2n b e]; exact I2 b b1 b2 (by omega)
        · by_cases e : b = b0
          · subst e
            rw [e20]
            exact q5 V hV fun c c1 c2 => by rw [← e2n c (by omega)]; exact hp c c1 c2
          · rw [e2n b e]
            exact I3 b b1 b2 (by omega) V hV fun c c1 c2 => by rw [← e2n c (by omega)]; exact hp c c1 c2
        · by_cases e : c = b0
          · subst e; rw [e20]; exact q8
          · rw [e2n c e]; exact q7 c (by omega) c2
      · rw [if_pos q0]
        refine zh_ret ⟨rfl, fun V hV => ?_⟩
        by_cases c : ∃ c : Nat, (c : Int) < (b0 : Int) ∧ zb ni c = true
        · obtain ⟨w1, w2, -⟩ := I4 c
          exact q1 _ w1 fun c c1 c2 => w2 c (by omega) c2
        · exact q1 V hV fun d d1 d2 => absurd ⟨d, by omega, d2⟩ c
    · rw [zb_bit0 (t := ni) (i := (b0 : Int)) i0 (by omega) hb, if_pos rfl]
      have ne : ∀ b : Nat, zb ni b = true → (b : Int) < (b0 : Int) + 1 → (b : Int) < (b0 : Int) := fun b b1 b2 => by
        by_cases e : b = b0
        · subst e; exact absurd b1 hb
        · omega
      exact k (f, g, S) hi ⟨sx, fun b b1 b2 b3 => I1 b b1 b2 (by omega), fun b b1 b2 b3 => I2 b b1 b2 (ne b b2 b3), fun b b1 b2 b3 => I3 b b1 b2 (ne b b2 b3), fun ⟨c, c1, c2⟩ => by
        obtain ⟨w1, w2, w3⟩ := I4 ⟨c, ne c c2 c1, c2⟩
        exact ⟨w1, fun d d1 d2 => w2 d (ne d d2 d1) d2, w3⟩⟩
  · obtain ⟨b, b1, b2⟩ := hne
    obtain ⟨w1, w2, w3⟩ := I4 ⟨b, by omega, b2⟩
    refine ⟨⟨w1, fun b b1 b2 V hV hp => ?_⟩, w3⟩
    show (S (b : Int)).toNat ≤ V b
    have e : (S (b : Int)).toNat = sx b := w2 b (by omega) b2
    rw [e]
    refine I3 b b1 b2 (by omega) V hV fun c c1 c2 => ?_
    rw [hp c c1 c2]
    exact w2 c (by omega) c2
end YCF
end
section
/-! Whether a tale can be told, and how it is matched: alike. -/
theorem yc_J_cg {z : Int} {J J2 : Int → Int} (h : ∀ i : Int, 0 ≤ i → i < 24 → J i = J2 i) : yc_J z J = yc_J z J2 := by
  funext i j
  rw [Bool.eq_iff_iff, yc_J_t, yc_J_t]
  constructor
  · rintro ⟨p, q, r, s, t⟩; exact ⟨p, q, r, s, by rw [← h i (by omega) (by omega)]; exact t⟩
  · rintro ⟨p, q, r, s, t⟩; exact ⟨p, q, r, s, by rw [h i (by omega) (by omega)]; exact t⟩
theorem ym_A_cg {z ni : Int} {nr J J2 : Int → Int} (h : ∀ i : Int, 0 ≤ i → i < 24 → J i = J2 i) : ym_A z nr J ni = ym_A z nr J2 ni := by
  unfold ym_A
  rw [yc_J_cg h]
theorem ym_F_cg {z ni : Int} {nr J J2 : Int → Int} (h : ∀ i : Int, 0 ≤ i → i < 24 → J i = J2 i) {W : Nat → Nat} (hF : ym_F z nr J ni W) : ym_F z nr J2 ni W := by
  unfold ym_F ym_Y at *
  rw [yc_J_cg h] at hF
  exact hF
theorem yv_il_H {s : Int} {D : Nat → Nat → Bool} {J : Int → Int} (h : yv_il s D J) : (∀ i : Nat, i < 24 → z24 (J i) ∧ zb (J i) i = false) ∧ ∀ i j : Nat, i < 24 → j < 24 → zb (J i) j = zb (J j) i := by
  refine ⟨fun i hi => ⟨(h i hi).1, ?_⟩, fun i j hi hj => ?_⟩
  · rw [(h i hi).2]
    unfold yv_lk
    rw [decide_eq_false (show ¬ i ≠ i from fun w => w rfl), Bool.false_and, Bool.false_and, Bool.and_false]
  · rw [(h i hi).2, (h j hj).2, decide_eq_true hi, decide_eq_true hj]
    unfold yv_lk
    rw [Nat.min_comm i j, Nat.max_comm i j, Bool.and_comm (zb s i)]
    have e : decide (i ≠ j) = decide (j ≠ i) := by
      rw [Bool.eq_iff_iff, decide_eq_true_iff, decide_eq_true_iff]
      exact ⟨fun w => w.symm, fun w => w.symm⟩
    rw [e]
theorem yn_cut {f : Nat → Bool} {n : Nat} (h : ∀ j, n ≤ j → f j = false) : ∀ k : Nat, yn_n f (n + k) = yn_n f n
  | 0 => rfl
  | k + 1 => by
    show yn_n f (n + k) + (if f (n + k) = true then 1 else 0) = yn_n f n
    rw [yn_cut h k, h (n + k) (by omega), if_neg (by decide)]; omega
section YTT
variable {n ni : Int} {nr fr to : Int → Int}
theorem yk_tl_8 (tl : yk_tl n ni nr fr to) : ∀ b, zb ni b = true → b < 8 := fun b hb => by
  obtain ⟨-, hft, -, -, hb2, -⟩ := tl
  obtain ⟨i, i0, i1, hi⟩ := (hb2 b).mp hb
  obtain ⟨⟨a1, a2⟩, ⟨b1, b2⟩, -⟩ := hft i i0 i1
  rcases hi with hi | hi <;> omega
theorem yk_tl_ne (tl : yk_tl n ni nr fr to) (hn : n ≠ 0) : ∃ b : Nat, b < 8 ∧ zb ni b = true := by
  obtain ⟨⟨n0, -⟩, hft, -, -, hb2, -⟩ := id tl
  obtain ⟨⟨a1, a2⟩, -⟩ := hft 0 (Int.le_refl _) (by omega)
  exact ⟨(fr 0).toNat, by omega, (hb2 _).mpr ⟨0, Int.le_refl _, by omega, .inl (by omega)⟩⟩
end YTT
def ym_tv (L : zLW) (tS t h u cl sc sr : Int) (co ro br nr : Int → Int) (ni p : Int) : Prop := ∃ z J, yv_is L tS t h u cl sc sr co ro br (p % 24) (p / 24) z ∧ yv_il z (yv_D L h u co ro br (p % 24) (p / 24)) J ∧ 0 < ym_A z nr J ni
theorem ym_tv_i {L : zLW} {tS t h u cl sc sr : Int} {co ro br nr J : Int → Int} {ni p z : Int} (hz : yv_is L tS t h u cl sc sr co ro br (p % 24) (p / 24) z) (hJ : yv_il z (yv_D L h u co ro br (p % 24) (p / 24)) J) : ym_tv L tS t h u cl sc sr co ro br nr ni p ↔ 0 < ym_A z nr J ni := by
  constructor
  · rintro ⟨z2, J2, h1, h2, h3⟩
    have e := yv_is_eq h1 hz
    subst e
    rw [ym_A_cg (yv_il_eq hJ h2)]; exact h3
  · intro h3; exact ⟨z, J, hz, hJ, h3⟩
section YTV
variable {L : zLW} {K V kd fr hf to C mk mf mh mt : Int → Int} {nc tS tL sP lP mc : Int} {t h u cl sc sr ch ts n ni p : Int} {co ro br wc wr m gp gl nr tf tt : Int → Int}
theorem yw_cbtXE (R : yl_R L K V nc tS tL sP lP kd fr hf to mc C mk mf mh mt) (k : yk_sky t h u cl sc sr ch co ro br wc wr m) (tl : yk_tl n ni nr tf tt) (p1 : 0 ≤ p) (p2 : p < 288) {vx vy sh as ho f dE : Int} {g S J pa ph may tw so : Int → Int} (hc : yv_ca L sP h u co ro br as ho) (hp : yv_cp L lP h u co ro br pa ph) (hs : yw_so so) :
    zh_ok (zf_X_canBeTold p vx vy h u sh t sc sr cl tS as ho nc f sP ni tL lP dE g co ro br kd hf to K S V J pa ph may nr tw so) fun o => (yv_ca L sP h u co ro br o.2.2.2.2.1 o.2.2.2.2.2.1 ∧ yv_cp L lP h u co ro br o.2.2.2.2.2.2.2.2.2.2.2.1 o.2.2.2.2.2.2.2.2.2.2.2.2.1 ∧ yw_so o.2.2.2.2.2.2.2.2.2.2.2.2.2.2.2) ∧ ((o.1 = 1 ∧ ym_tv L tS t h u cl sc sr co ro br nr ni p) ∨ (o.1 = 0 ∧ ¬ ym_tv L tS t h u cl sc sr co ro br nr ni p)) := by
  refine zh_and (yw_cbtX R k p1 p2 hc hp hs) ?_
  unfold zf_X_canBeTold
  rw [ze_X_columnOf p1 p2, zl_b, ze_X_rowOf p1 p2, zl_b]
  obtain ⟨s', as', ho', a', g', S', e1, i1, c1⟩ := yx_look (f2 := vx) (f3 := vy) (f6 := sh) (f := f) (g := g) (S := S) (x := p % 24) (y := p / 24) R k (by omega) (by omega) (by omega) (by omega) hc
  obtain ⟨f', J', g2, pa', ph', S2, e2, l2, c2⟩ := yx_draw (s := s') (f := a') (J := J) (g := g') (S := S') (x := p % 24) (y := p / 24) R k hp
  have hni := tl.2.2.2.1
  have hz := i1.1
  obtain ⟨H, HN⟩ := yk_tl_H tl (yv_il_H l2).1 (yv_il_H l2).2
  rw [e1, zl_b]
  dsimp only
  rw [ze_bc hz, zl_b, ze_bc hni, zl_b]
  refine zh_ite (fun hlt => zh_ret (.inr ⟨rfl, ?_⟩)) fun hge => ?_
  · rw [ym_tv_i i1 l2]
    have few : ym_A s' nr J' ni = 0 := yc_few (yc_N_s H) (yc_J_s H) (z := zb s') yc_ls_nd (fun _ _ j hj => hj) (by
      rw [yc_ls_len]
      rw [yn_sum hz.1 (by have := hz.2; omega) 24, yn_sum hni.1 (by have := hni.2; omega) 24, yn_cut (f := zb ni) (n := 8) (fun j hj => Bool.eq_false_iff.mpr fun w => by have := yk_tl_8 tl j w; omega) 16] at hlt
      exact hlt)
    omega
  · rw [e2, zl_b]
    dsimp only
    refine zh_bind (ym_count H HN hz hni (yk_tl_8 tl) (most := 1) (f2 := dE) (g1 := may) (g3 := tw) (g4 := so) (by decide) (by decide)) fun r8 h8 => ?_
    obtain ⟨q1, -⟩ := h8
    have ed := ym_tv_i (nr := nr) (ni := ni) i1 l2
    refine zh_ite (fun hp => zh_ret (.inl ⟨rfl, ed.mpr ?_⟩)) fun hn => zh_ret (.inr ⟨rfl, fun w => ?_⟩)
    · rw [q1] at hp
      split at hp <;> omega
    · have := ed.mp w
      rw [q1] at hn
      split at hn <;> omega
theorem yw_cbtME (R : yl_R L K V nc tS tL sP lP kd fr hf to mc C mk mf mh mt) (k : yk_sky t h u cl sc sr ch co ro br wc wr m) (tl : yk_tl n ni nr tf tt) (hn : n ≠ 0) (p1 : 0 ≤ p) (p2 : p < 288) {f1 f2 : Int} {g S J nA sF fF : Int → Int} :
    zh_ok (zf_M_canBeTold p mc f1 f2 ni n m mk g mh mt C S J nA sF tf tt fF) fun o => ((o.1 = 1 ∧ ym_tv L tS t h u cl sc sr co ro br nr ni p) ∨ (o.1 = 0 ∧ ¬ ym_tv L tS t h u cl sc sr co ro br nr ni p)) ∧ yv_is L tS t h u cl sc sr co ro br (p % 24) (p / 24) o.2.1 := by
  unfold zf_M_canBeTold
  obtain ⟨s', g', S', J', e1, i1, l1⟩ := ym_looks (f1 := f1) (g := g) (S := S) (J := J) (x := p % 24) (y := p / 24) R k (by omega) (by omega) (by omega) (by omega)
  rw [show 24 * (p / 24) + p % 24 = p by omega] at e1
  rw [e1, zl_b]
  dsimp only
  obtain ⟨H, -⟩ := yk_tl_H tl (yv_il_H l1).1 (yv_il_H l1).2
  obtain ⟨r, Nn, nm, S2, g2, e2, hnm, -, Ls, eL, er, -⟩ := yw_ways (most := 1) (z := s') (J := J') (f0 := f2) (g0 := nA) (g1 := sF) (g5 := fF) tl hn (by decide) (by decide)
  have hlen : Ls.length = ym_A s' nr J' ni := by rw [eL]; exact yw_L_A tl hnm H
  rw [hlen] at er
  have ed := ym_tv_i (nr := nr) (ni := ni) i1 l1
  rw [e2, zl_b]
  refine zh_ite (fun hp => zh_ret ⟨.inl ⟨rfl, ed.mpr ?_⟩, i1⟩) fun hn => zh_ret ⟨.inr ⟨rfl, fun w => ?_⟩, i1⟩
  · have hp : 0 < r := hp
    rw [er] at hp
    split at hp <;> omega
  · have := ed.mp w
    have hn : ¬ 0 < r := hn
    rw [er] at hn
    split at hn <;> omega
theorem yo_matched (R : yl_R L K V nc tS tL sP lP kd fr hf to mc C mk mf mh mt) (k : yk_sky t h u cl sc sr ch co ro br wc wr m) (tl : yk_tl n ni nr tf tt) {x y w f5 f6 f7 f10 f16 f18 f25 f2 f4 : Int} {g0 g1 g9 g11 g12 g13 g15 g16 e2 e6 e7 e8 e9 e12 : Int → Int} (hs : yw_so g16) :
    ∃ o1 o2, zf_X_matched x y w n f5 f6 f7 h u f10 t sc sr cl tS f16 nc f18 sP tL lP ni f25 g0 g1 co ro br kd hf to K g9 V g11 g12 g13 nr g15 g16 = some o1 ∧ zf_M_matched x y w n mc f2 ni f4 m mk e2 mh mt C e6 e7 e8 e9 tf tt e12 = some o2 ∧ o1.1 = o2.1 ∧ yw_so o1.2.2.2.2.2.2.2.2.2.2.2.2.2.2.2 := by
  obtain ⟨oX, eX, hX⟩ := yw_matchedX (x := x) (y := y) (w := w) (n := n) (f5 := f5) (f6 := f6) (f7 := f7) (f10 := f10) (f16 := f16) (f18 := f18) (f22 := ni) (f25 := f25) (g0 := g0) (g1 := g1) (g9 := g9) (g11 := g11) (g12 := g12) (g13 := g13) (g14 := nr) (g15 := g15) R k hs
  obtain ⟨oM, eM, -⟩ := yw_matchedM (x := x) (y := y) (w := w) (f2 := f2) (f4 := f4) (g2 := e2) (g6 := e6) (g7 := e7) (g8 := e8) (g9 := e9) (g12 := e12) R k tl
  refine ⟨oX, oM, eX, eM, ?_, hX⟩
  unfold zf_X_matched at eX
  unfold zf_M_matched at eM
  rw [ze_X_isPlace, zl_b] at eX
  rw [ze_M_isPlace, zl_b] at eM
  by_cases q : zs_pl x y = 0
  · rw [if_pos q] at eX eM
    cases eX; cases eM; rfl
  rw [if_neg q, ze_X_isWithin, zl_b] at eX
  rw [if_neg q, ze_M_in, zl_b] at eM
  by_cases q2 : zs_in w (-1) 7 = 0
  · rw [if_pos q2] at eX eM
    cases eX; cases eM; rfl
  rw [if_neg q2] at eX eM
  by_cases hn : n = 0
  · rw [if_pos hn] at eX eM
    cases eX; cases eM; rfl
  rw [if_neg hn] at eX eM
  obtain ⟨x1, x2, y1, y2⟩ := zs_pl_ne q
  obtain ⟨w1, w2⟩ := zs_in_ne q2
  have hni := tl.2.2.2.1
  obtain ⟨f3', s', f14', f16', g0', g1', g9', J, g12', e1, i1, l1⟩ := yx_lad (f3 := f5) (f4 := f6) (f5 := f7) (f8 := f10) (f14 := f16) (f16 := f18) (g0 := g0) (g1 := g1) (g9 := g9) (g11 := g11) (g12 := g12) R k x1 (by omega : x ≤ 23) y1 (by omega : y ≤ 11)
  obtain ⟨s2, g', S', J2, e3, i2, l2⟩ := ym_looks (f1 := f2) (g := e2) (S := e6) (J := e7) (x := x) (y := y) R k (by omega) (by omega) (by omega) (by omega)
  have es := yv_is_eq i2 i1
  subst es
  have eJ := yv_il_eq l1 l2
  obtain ⟨H, HN⟩ := yk_tl_H tl (yv_il_H l1).1 (yv_il_H l1).2
  obtain ⟨H2, -⟩ := yk_tl_H tl (yv_il_H l2).1 (yv_il_H l2).2
  rw [e1, zl_b] at eX
  rw [zi_w_id (x := 24 * y) (by omega) (by omega), zi_w_id (x := 24 * y + x) (by omega) (by omega), e3, zl_b] at eM
  dsimp only at eX eM
  by_cases q3 : w = -1
  · rw [if_pos q3] at eX eM
    obtain ⟨r, er, h1, -⟩ := ym_count H HN i1.1 hni (yk_tl_8 tl) (most := 10000) (f2 := f25) (g1 := g13) (g3 := g15) (g4 := g16) (by decide) (by decide)
    obtain ⟨r2, Nn, nm, S2, g3, e4, hnm, -, Ls, eL, er2, -⟩ := yw_ways (most := 10000) (z := s2) (J := J2) (f0 := f4) (g0 := e8) (g1 := e9) (g5 := e12) tl hn (by decide) (by decide)
    have hlen : Ls.length = ym_A s2 nr J2 ni := by rw [eL]; exact yw_L_A tl hnm H2
    rw [er, zl_b] at eX
    rw [e4, zl_b] at eM
    cases eX; cases eM
    show r.1 = r2
    rw [h1, er2, hlen, ym_A_cg eJ]
  · rw [if_neg q3] at eX eM
    rw [ze_has2 (t := ni) (i := w) (by omega) (by omega), zl_b] at eM
    by_cases q4 : zb ni w.toNat = true
    · rw [zb_bit1 (t := ni) (i := w) (by omega) (by omega) q4, if_neg (show ¬ (1 : Int) = 0 by decide)] at eX
      rw [if_pos q4, if_neg (show ¬ (1 : Int) = 0 by decide)] at eM
      obtain ⟨r, er, h1⟩ := ym_first H HN i1.1 hni (yk_tl_8 tl) (yk_tl_ne tl hn) (f2 := f25) (g1 := g13) (g3 := g15) (g4 := g16)
      obtain ⟨r2, Nn, nm, S2, g3, e4, hnm, -, Ls, eL, er2, hQ⟩ := yw_ways (most := 1) (z := s2) (J := J2) (f0 := f4) (g0 := e8) (g1 := e9) (g5 := e12) tl hn (by decide) (by decide)
      have hlen : Ls.length = ym_A s2 nr J2 ni := by rw [eL]; exact yw_L_A tl hnm H2
      rw [er, zl_b] at eX
      rw [e4, zl_b] at eM
      rcases h1 with ⟨h1, hF, hpos⟩ | ⟨h1, hno⟩
      · rw [if_neg (by rw [h1]; decide), zl_ci (show 0 ≤ w by omega) (by omega)] at eX
        have hA : 0 < ym_A s2 nr J2 ni := by
          rw [← ym_A_cg eJ]
          exact yc_pos1 (yc_N_s H) (yc_J_s H) yc_ls_nd hF.1
        have hr2 : 0 < r2 := by rw [er2, hlen]; split <;> omega
        rw [if_pos hr2, zl_ci (show 0 ≤ w by omega) (by omega)] at eM
        cases eX; cases eM
        show r.2.2.2.2 w = g3 w
        obtain ⟨X, hX2⟩ : ∃ X, Ls.head? = some X := by
          cases Ls with
          | nil => rw [← hlen] at hA; exact absurd hA (Nat.lt_irrefl 0)
          | cons X l => exact ⟨X, rfl⟩
        obtain ⟨W, hW, hWX⟩ := yw_L_F tl hnm H2 (z := s2) (by rw [← eL]; exact hX2)
        obtain ⟨j, j0, j1, j2⟩ := hnm.2.2.2 w.toNat (by omega) q4
        have a1 := hQ.1 rfl X hX2 j j0 j1
        have a2 := hWX j j0 j1
        have a3 := ym_F_u (ym_F_cg eJ hF) hW w.toNat (by omega) q4
        have a4 := hpos w.toNat (by omega) q4
        have ew : nm j = w := by omega
        rw [ew] at a1 a2
        rw [Int.toNat_of_nonneg (show 0 ≤ w by omega)] at a3 a4
        have a3 : (r.2.2.2.2 w).toNat = W w.toNat := a3
        omega
      · rw [if_pos h1] at eX
        have hA : ym_A s2 nr J2 ni = 0 := by
          by_cases c : 0 < ym_A s2 nr J2 ni
          · rw [← ym_A_cg eJ] at c
            obtain ⟨W, hW⟩ := yc_pos2 (yc_N_s H) (yc_J_s H) yc_ls_nd c
            exact absurd hW (hno W)
          · omega
        have hr2 : ¬ 0 < r2 := by rw [er2, hlen, hA]; decide
        rw [if_neg hr2] at eM
        cases eX; cases eM; rfl
    · rw [zb_bit0 (t := ni) (i := w) (by omega) (by omega) q4, if_pos rfl] at eX
      rw [if_neg q4, if_pos rfl] at eM
      cases eX; cases eM; rfl
end YTV
end
section
/-! where, when, both: alike. -/
/-- the first place of some, or that there is none -/
def ym_lp (T : Nat → Bool) (N : Nat) (v : Int) : Prop := (v = -2 ∧ ∀ q, q < N → T q = false) ∨ (0 ≤ v ∧ v < N ∧ T v.toNat = true ∧ ∀ q, q < v.toNat → T q = false)
theorem ym_lp_u {T : Nat → Bool} {N : Nat} {v w : Int} (h1 : ym_lp T N v) (h2 : ym_lp T N w) : v = w := by
  rcases h1 with ⟨a1, a2⟩ | ⟨a1, a2, a3, a4⟩
  · rcases h2 with ⟨b1, b2⟩ | ⟨b1, b2, b3, b4⟩
    · omega
    · have := a2 w.toNat (by omega)
      rw [b3] at this; cases this
  · rcases h2 with ⟨b1, b2⟩ | ⟨b1, b2, b3, b4⟩
    · have := b2 v.toNat (by omega)
      rw [a3] at this; cases this
    · by_cases lt : v < w
      · have := b4 v.toNat (by omega)
        rw [a3] at this; cases this
      · by_cases gt : w < v
        · have := a4 w.toNat (by omega)
          rw [b3] at this; cases this
        · omega
def ym_cn (T : Nat → Bool) (i c : Int) : Prop := c = yn_n T i.toNat
theorem ym_cn_0 {T : Nat → Bool} : ym_cn T 0 0 := rfl
theorem ym_cn_in {T : Nat → Bool} {i c : Int} (h : ym_cn T i c) (i0 : 0 ≤ i) : 0 ≤ c ∧ c ≤ i := by
  have := yn_in (f := T) i.toNat
  unfold ym_cn at h
  rw [← h] at this
  omega
theorem ym_cn_s {T : Nat → Bool} {i c d : Int} (h : ym_cn T i c) (i0 : 0 ≤ i) (hd : d = c + (if T i.toNat = true then 1 else 0)) : ym_cn T (i + 1) d := by
  unfold ym_cn at *
  rw [show (i + 1).toNat = i.toNat + 1 by omega, hd, h]; rfl
noncomputable def ym_tb (L : zLW) (tS t h u cl sc sr : Int) (co ro br nr : Int → Int) (ni : Int) (p : Nat) : Bool := @decide (ym_tv L tS t h u cl sc sr co ro br nr ni p) (Classical.propDecidable _)
theorem ym_tb_1 {L : zLW} {tS t h u cl sc sr : Int} {co ro br nr : Int → Int} {ni p : Int} (p0 : 0 ≤ p) : ym_tb L tS t h u cl sc sr co ro br nr ni p.toNat = true ↔ ym_tv L tS t h u cl sc sr co ro br nr ni p := by
  unfold ym_tb
  rw [@decide_eq_true_iff _ (Classical.propDecidable _), Int.toNat_of_nonneg p0]
theorem ym_tb_0 {L : zLW} {tS t h u cl sc sr : Int} {co ro br nr : Int → Int} {ni p : Int} (p0 : 0 ≤ p) (hn : ¬ ym_tv L tS t h u cl sc sr co ro br nr ni p) : ym_tb L tS t h u cl sc sr co ro br nr ni p.toNat = false := by
  rw [Bool.eq_false_iff]
  exact fun w => hn ((ym_tb_1 p0).mp w)
section YTW
variable {L : zLW} {K V kd fr hf to C mk mf mh mt : Int → Int} {nc tS tL sP lP mc : Int} {t h u cl sc sr ch ts n ni p : Int} {co ro br wc wr m gp gl nr tf tt : Int → Int}
theorem yw_whereXE (R : yl_R L K V nc tS tL sP lP kd fr hf to mc C mk mf mh mt) (k : yk_sky t h u cl sc sr ch co ro br wc wr m) (tl : yk_tl n ni nr tf tt) {w f5 f6 f7 f10 f16 f18 f25 : Int} {g0 g1 g9 g11 g12 g13 g15 g16 : Int → Int} (hs : yw_so g16) (hw : w = 0 ∨ w = 1) (hn : n ≠ 0) :
    zh_ok (zf_X_where w n f5 f6 f7 h u f10 t sc sr cl tS f16 nc f18 sP ni tL lP f25 g0 g1 co ro br kd hf to K g9 V g11 g12 g13 nr g15 g16) fun o => yw_so o.2.2.2.2.2.2.2.2.2.2.2.2.2.2.2 ∧ ((w = 0 ∧ ym_cn (ym_tb L tS t h u cl sc sr co ro br nr ni) 288 o.1) ∨ (w = 1 ∧ ym_lp (ym_tb L tS t h u cl sc sr co ro br nr ni) 288 o.1)) := by
  unfold zf_X_where
  rw [ze_X_isWithin, zl_b]
  have hin : ¬ zs_in w 0 1 = 0 := by
    rcases hw with e | e
    · subst e; decide
    · subst e; decide
  rw [if_neg hin, if_neg hn]
  obtain ⟨g0', e0, h0⟩ := ze_open (f := f5) (g := g0)
  rw [e0, zl_b]
  dsimp only
  obtain ⟨T, eT⟩ : ∃ T, T = ym_tb L tS t h u cl sc sr co ro br nr ni := ⟨_, rfl⟩
  rw [← eT]
  have hT1 : ∀ p : Int, 0 ≤ p → ym_tv L tS t h u cl sc sr co ro br nr ni p → T p.toNat = true := fun p p0 hp => by rw [eT]; exact (ym_tb_1 p0).mpr hp
  have hT0 : ∀ p : Int, 0 ≤ p → ¬ ym_tv L tS t h u cl sc sr co ro br nr ni p → T p.toNat = false := fun p p0 hp => by rw [eT]; exact ym_tb_0 p0 hp
  clear eT
  refine zh_sum (Q := fun q => match q with
    | .inl a => yw_so a.2.2.2.2.2.2.2.2.2.2.2.2.2.2.2 ∧ ym_cn T 288 a.1 ∧ (w = 1 → ∀ q, q < 288 → T q = false)
    | .inr b => yw_so b.2.2.2.2.2.2.2.2.2.2.2.2.2.2.2 ∧ w = 1 ∧ ym_lp T 288 b.1) (zh_loop (F := fun n i (a : Int × Int × Int × Int × Int × Int × Int × Int × (Int → Int) × (Int → Int) × (Int → Int) × (Int → Int) × (Int → Int) × (Int → Int) × (Int → Int) × (Int → Int)) => zf_X_where_l0 w h u t sc sr cl tS nc sP ni tL lP co ro br kd hf to K V nr n a.1 i a.2.1 a.2.2.1 a.2.2.2.1 a.2.2.2.2.1 a.2.2.2.2.2.1 a.2.2.2.2.2.2.1 a.2.2.2.2.2.2.2.1 a.2.2.2.2.2.2.2.2.1 a.2.2.2.2.2.2.2.2.2.1 a.2.2.2.2.2.2.2.2.2.2.1 a.2.2.2.2.2.2.2.2.2.2.2.1 a.2.2.2.2.2.2.2.2.2.2.2.2.1 a.2.2.2.2.2.2.2.2.2.2.2.2.2.1 a.2.2.2.2.2.2.2.2.2.2.2.2.2.2.1 a.2.2.2.2.2.2.2.2.2.2.2.2.2.2.2) (N := 288)
      (I := fun i a => (yv_ca L sP h u co ro br a.2.1 a.2.2.2.2.2.1 ∧ yv_cp L lP h u co ro br a.2.2.2.2.2.2.2.2.1 a.2.2.2.2.2.2.2.2.2.2.2.2.1 ∧ yw_so a.2.2.2.2.2.2.2.2.2.2.2.2.2.2.2) ∧ ym_cn T i a.1 ∧ (w = 1 → ∀ q : Nat, (q : Int) < i → T q = false)) (fun n i a i0 i1 ha kk => ?_) 288 0 (0, 0, f6, f7, f10, f16, f18, f25, g0', g1, g9, g11, g12, g13, g15, g16) zi_fu (by decide) (by decide) (by decide) (by decide) ⟨⟨yv_ca0, yv_cp0 h0, hs⟩, ym_cn_0, fun _ q hq => by omega⟩) (fun a ha => zh_ite (fun e => zh_ret ⟨ha.1, .inr ⟨e, .inl ⟨rfl, ha.2.2 e⟩⟩⟩) fun e => zh_ret ⟨ha.1, .inl ⟨hw.elim id fun w => absurd w e, ha.2.1⟩⟩) fun b hb => zh_ret ⟨hb.1, .inr hb.2⟩
  obtain ⟨a1, a2, a3, a4, a5, a6, a7, a8, a9, a10, a11, a12, a13, a14, a15, a16⟩ := a
  obtain ⟨⟨hc, hp, hs⟩, hcn, hno⟩ := ha
  have hcn : ym_cn T i a1 := hcn
  show zh_ok (zf_X_where_l0_b w h u t sc sr cl tS nc sP ni tL lP co ro br kd hf to K V nr (zf_X_where_l0 w h u t sc sr cl tS nc sP ni tL lP co ro br kd hf to K V nr n) a1 i a2 a3 a4 a5 a6 a7 a8 a9 a10 a11 a12 a13 a14 a15 a16) _
  unfold zf_X_where_l0_b
  refine zh_ite (fun hi => ?_) fun hi => zh_ret ?_
  · have ci := ym_cn_in hcn i0
    rw [zi_w_id (x := i + 1) (by omega) (by omega), zi_w_id (x := a1 + 1) (by omega) (by omega)]
    have k2 : ∀ b1 b2 b3 b4 b5 b6 b7 b8 b9 b10 b11 b12 b13 b14 b15 b16, (yv_ca L sP h u co ro br b2 b6 ∧ yv_cp L lP h u co ro br b9 b13 ∧ yw_so b16) → ym_cn T (i + 1) b1 → (w = 1 → ∀ q : Nat, (q : Int) < i + 1 → T q = false) → zh_ok (zf_X_where_l0 w h u t sc sr cl tS nc sP ni tL lP co ro br kd hf to K V nr n b1 (i + 1) b2 b3 b4 b5 b6 b7 b8 b9 b10 b11 b12 b13 b14 b15 b16) _ := fun b1 b2 b3 b4 b5 b6 b7 b8 b9 b10 b11 b12 b13 b14 b15 b16 q1 q2 q3 => kk (b1, b2, b3, b4, b5, b6, b7, b8, b9, b10, b11, b12, b13, b14, b15, b16) hi ⟨q1, q2, q3⟩
    refine zh_bind (yw_cbtXE R k tl i0 hi hc hp hs) fun r6 h6 => ?_
    obtain ⟨h6a, h6b⟩ := h6
    rcases h6b with ⟨c1, c2⟩ | ⟨c1, c2⟩
    · have hti := hT1 i i0 c2
      rw [if_neg (by rw [c1]; decide)]
      refine zh_ite (fun e => zh_ret ⟨h6a.2.2, e, .inr ⟨i0, hi, hti, fun q hq => hno e q (by omega)⟩⟩) fun e => k2 _ _ _ _ _ _ _ _ _ _ _ _ _ _ _ _ h6a (ym_cn_s hcn i0 (by rw [if_pos hti])) fun w => absurd w e
    · have hti := hT0 i i0 c2
      rw [if_pos c1]
      refine k2 _ _ _ _ _ _ _ _ _ _ _ _ _ _ _ _ h6a (ym_cn_s hcn i0 (by rw [if_neg (by rw [hti]; decide)]; omega)) fun e q hq => ?_
      by_cases eq : q = i.toNat
      · subst eq; exact hti
      · exact hno e q (by omega)
  · have e : i = 288 := by omega
    subst e
    exact ⟨hs, hcn, fun e q hq => hno e q (by omega)⟩
theorem yw_whereME (R : yl_R L K V nc tS tL sP lP kd fr hf to mc C mk mf mh mt) (k : yk_sky t h u cl sc sr ch co ro br wc wr m) (tl : yk_tl n ni nr tf tt) {w f2 f3 : Int} {g2 g6 g7 g8 g9 g12 : Int → Int} (hw : w = 0 ∨ w = 1) (hn : n ≠ 0) :
    zh_ok (zf_M_where w n mc f2 f3 ni m mk g2 mh mt C g6 g7 g8 g9 tf tt g12) fun o => (w = 0 ∧ ym_cn (ym_tb L tS t h u cl sc sr co ro br nr ni) 288 o.1) ∨ (w = 1 ∧ ym_lp (ym_tb L tS t h u cl sc sr co ro br nr ni) 288 o.1) := by
  unfold zf_M_where
  rw [ze_M_in, zl_b]
  have hin : ¬ zs_in w 0 1 = 0 := by
    rcases hw with e | e
    · subst e; decide
    · subst e; decide
  rw [if_neg hin, if_neg hn]
  obtain ⟨T, eT⟩ : ∃ T, T = ym_tb L tS t h u cl sc sr co ro br nr ni := ⟨_, rfl⟩
  rw [← eT]
  have hT1 : ∀ p : Int, 0 ≤ p → ym_tv L tS t h u cl sc sr co ro br nr ni p → T p.toNat = true := fun p p0 hp => by rw [eT]; exact (ym_tb_1 p0).mpr hp
  have hT0 : ∀ p : Int, 0 ≤ p → ¬ ym_tv L tS t h u cl sc sr co ro br nr ni p → T p.toNat = false := fun p p0 hp => by rw [eT]; exact ym_tb_0 p0 hp
  clear eT
  refine zh_bind (Q := fun a => ym_cn T 288 a.1 ∧ ym_lp T 288 a.2.1) (zh_loop (F := fun f i (a : Int × Int × Int × Int × (Int → Int) × (Int → Int) × (Int → Int) × (Int → Int) × (Int → Int) × (Int → Int)) => zf_M_where_l0 n mc ni m mk mh mt C tf tt f a.1 a.2.1 i a.2.2.1 a.2.2.2.1 a.2.2.2.2.1 a.2.2.2.2.2.1 a.2.2.2.2.2.2.1 a.2.2.2.2.2.2.2.1 a.2.2.2.2.2.2.2.2.1 a.2.2.2.2.2.2.2.2.2) (N := 288)
    (I := fun i a => ym_cn T i a.1 ∧ ((a.1 = 0 ∧ a.2.1 = -2 ∧ ∀ q : Nat, (q : Int) < i → T q = false) ∨ (0 < a.1 ∧ 0 ≤ a.2.1 ∧ a.2.1 < i ∧ T a.2.1.toNat = true ∧ ∀ q : Nat, q < a.2.1.toNat → T q = false))) (fun f i a i0 i1 ha kk => ?_) 288 0 (0, -2, f2, f3, g2, g6, g7, g8, g9, g12) zi_fu (by decide) (by decide) (by decide) (by decide) ⟨ym_cn_0, .inl ⟨rfl, rfl, fun q hq => by omega⟩⟩) fun q hq => zh_ite (fun e => zh_ret (.inl ⟨e, hq.1⟩)) fun e => zh_ret (.inr ⟨hw.elim (fun w => absurd w e) id, hq.2⟩)
  obtain ⟨a1, a2, a3, a4, a5, a6, a7, a8, a9, a10⟩ := a
  obtain ⟨hcn, hf⟩ := ha
  have hcn : ym_cn T i a1 := hcn
  have hf : (a1 = 0 ∧ a2 = -2 ∧ ∀ q : Nat, (q : Int) < i → T q = false) ∨ (0 < a1 ∧ 0 ≤ a2 ∧ a2 < i ∧ T a2.toNat = true ∧ ∀ q : Nat, q < a2.toNat → T q = false) := hf
  show zh_ok (zf_M_where_l0_b n mc ni m mk mh mt C tf tt (zf_M_where_l0 n mc ni m mk mh mt C tf tt f) a1 a2 i a3 a4 a5 a6 a7 a8 a9 a10) _
  unfold zf_M_where_l0_b
  refine zh_ite (fun hi => ?_) fun hi => zh_ret ?_
  · have ci := ym_cn_in hcn i0
    rw [zi_w_id (x := i + 1) (by omega) (by omega), zi_w_id (x := a1 + 1) (by omega) (by omega)]
    refine zh_bind (yw_cbtME R k tl hn i0 hi) fun r5 h5 => ?_
    rcases h5.1 with ⟨c1, c2⟩ | ⟨c1, c2⟩
    · have hti := hT1 i i0 c2
      rw [if_neg (by rw [c1]; decide)]
      have cs := ym_cn_s hcn i0 (d := a1 + 1) (by rw [if_pos hti])
      refine zh_ite (fun e => kk (_, _, _, _, _, _, _, _, _, _) hi ⟨cs, .inr ⟨by show 0 < a1 + 1; omega, i0, by show i < i + 1; omega, hti, fun q hq => ?_⟩⟩) fun e => kk (_, _, _, _, _, _, _, _, _, _) hi ⟨cs, .inr ?_⟩
      · rcases hf with ⟨b1, b2, b3⟩ | ⟨b1, -⟩
        · exact b3 q (by have hq : q < i.toNat := hq; omega)
        · omega
      · rcases hf with ⟨b1, b2, b3⟩ | ⟨b1, b2, b3, b4, b5⟩
        · exact absurd b1 e
        · exact ⟨by show 0 < a1 + 1; omega, b2, by show a2 < i + 1; omega, b4, b5⟩
    · have hti := hT0 i i0 c2
      rw [if_pos c1]
      refine kk (_, _, _, _, _, _, _, _, _, _) hi ⟨ym_cn_s hcn i0 (by show a1 = a1 + _; rw [if_neg (by rw [hti]; decide)]; omega), ?_⟩
      rcases hf with ⟨b1, b2, b3⟩ | ⟨b1, b2, b3, b4, b5⟩
      · refine .inl ⟨b1, b2, fun q hq => ?_⟩
        by_cases eq : q = i.toNat
        · subst eq; exact hti
        · exact b3 q (by omega)
      · exact .inr ⟨b1, b2, by show a2 < i + 1; omega, b4, b5⟩
  · have e : i = 288 := by omega
    subst e
    refine ⟨hcn, ?_⟩
    rcases hf with ⟨b1, b2, b3⟩ | ⟨b1, b2, b3, b4, b5⟩
    · exact .inl ⟨b2, fun q hq => b3 q (by omega)⟩
    · exact .inr ⟨b2, b3, b4, b5⟩
theorem yo_where (R : yl_R L K V nc tS tL sP lP kd fr hf to mc C mk mf mh mt) (k : yk_sky t h u cl sc sr ch co ro br wc wr m) (tl : yk_tl n ni nr tf tt) {w f5 f6 f7 f10 f16 f18 f25 f2 f3 : Int} {g0 g1 g9 g11 g12 g13 g15 g16 e2 e6 e7 e8 e9 e12 : Int → Int} (hs : yw_so g16) :
    ∃ o1 o2, zf_X_where w n f5 f6 f7 h u f10 t sc sr cl tS f16 nc f18 sP ni tL lP f25 g0 g1 co ro br kd hf to K g9 V g11 g12 g13 nr g15 g16 = some o1 ∧ zf_M_where w n mc f2 f3 ni m mk e2 mh mt C e6 e7 e8 e9 tf tt e12 = some o2 ∧ o1.1 = o2.1 ∧ yw_so o1.2.2.2.2.2.2.2.2.2.2.2.2.2.2.2 := by
  obtain ⟨oX, eX, hX⟩ := yw_whereX (w := w) (n := n) (f5 := f5) (f6 := f6) (f7 := f7) (f10 := f10) (f16 := f16) (f18 := f18) (f20 := ni) (f25 := f25) (g0 := g0) (g1 := g1) (g9 := g9) (g11 := g11) (g12 := g12) (g13 := g13) (g14 := nr) (g15 := g15) R k hs
  obtain ⟨oM, eM, -⟩ := yw_whereM (w := w) (f2 := f2) (f3 := f3) (g2 := e2) (g6 := e6) (g7 := e7) (g8 := e8) (g9 := e9) (g12 := e12) R k tl
  refine ⟨oX, oM, eX, eM, ?_, hX⟩
  by_cases q : zs_in w 0 1 = 0
  · unfold zf_X_where at eX
    unfold zf_M_where at eM
    rw [ze_X_isWithin, zl_b, if_pos q] at eX
    rw [ze_M_in, zl_b, if_pos q] at eM
    cases eX; cases eM; rfl
  by_cases hn : n = 0
  · unfold zf_X_where at eX
    unfold zf_M_where at eM
    rw [ze_X_isWithin, zl_b, if_neg q, if_pos hn] at eX
    rw [ze_M_in, zl_b, if_neg q, if_pos hn] at eM
    cases eX; cases eM; rfl
  have hw : w = 0 ∨ w = 1 := by have := zs_in_ne q; omega
  obtain ⟨o1, e1, h1, h1b⟩ := yw_whereXE (f5 := f5) (f6 := f6) (f7 := f7) (f10 := f10) (f16 := f16) (f18 := f18) (f25 := f25) (g0 := g0) (g1 := g1) (g9 := g9) (g11 := g11) (g12 := g12) (g13 := g13) (g15 := g15) R k tl hs hw hn
  obtain ⟨o2, e3, h2⟩ := yw_whereME (f2 := f2) (f3 := f3) (g2 := e2) (g6 := e6) (g7 := e7) (g8 := e8) (g9 := e9) (g12 := e12) R k tl hw hn
  rw [eX] at e1
  rw [eM] at e3
  cases e1; cases e3
  rcases h1b with ⟨a1, a2⟩ | ⟨a1, a2⟩
  · rcases h2 with ⟨b1, b2⟩ | ⟨b1, b2⟩
    · exact a2.trans b2.symm
    · omega
  · rcases h2 with ⟨b1, b2⟩ | ⟨b1, b2⟩
    · omega
    · exact ym_lp_u a2 b2
end YTW
end
section
/-! when, both: alike. -/
def ym_hb (B : Nat → Bool) (s : Int) : Prop := z24 s ∧ ∀ j, zb s j = (decide (j < 24) && B j)
theorem ym_hb_u {B : Nat → Bool} {s v : Int} (h1 : ym_hb B s) (h2 : ym_hb B v) : s = v := z24_ext h1.1 h2.1 fun j _ => by rw [h1.2, h2.2]
section YTX
variable {L : zLW} {K V kd fr hf to C mk mf mh mt : Int → Int} {nc tS tL sP lP mc : Int} {t h u cl sc sr ch ts n ni p : Int} {co ro br wc wr m gp gl nr tf tt : Int → Int}
theorem yw_whenXE (R : yl_R L K V nc tS tL sP lP kd fr hf to mc C mk mf mh mt) (k : yk_sky t h u cl sc sr ch co ro br wc wr m) (tl : yk_tl n ni nr tf tt) {x y f3 f5 f7 f9 f11 f13 f15 f19 f20 f21 f22 f24 f26 f33 : Int} {g1 g3 g5 g7 g9 g10 g11 g16 g18 g19 g20 g22 g23 : Int → Int} (hs : yw_so g23) (q : ¬ zs_pl x y = 0) (hn : n ≠ 0) {B : Nat → Bool}
    (hB : ∀ i : Nat, i < 24 → (B i = true ↔ ym_tv L tS t i u cl sc sr (zv_cpy co g1 24) (zv_cpy ro g3 24) (zv_cpy br g5 24) nr ni (24 * y + x))) :
    zh_ok (zf_X_when x y n t f3 h f5 u f7 cl f9 sc f11 sr f13 ch f15 f19 f20 f21 f22 tS f24 nc f26 sP ni tL lP f33 co g1 ro g3 br g5 wc g7 wr g9 g10 g11 kd hf to K g16 V g18 g19 g20 nr g22 g23) fun o => ym_hb B o.1 := by
  unfold zf_X_when
  rw [ze_X_isPlace, zl_b, if_neg q, if_neg hn]
  obtain ⟨x1, x2, y1, y2⟩ := zs_pl_ne q
  unfold zf_Sky_copyFrom
  rw [zl_b]
  dsimp only
  have k2 : yk_sky t h u cl sc sr ch (zv_cpy co g1 24) (zv_cpy ro g3 24) (zv_cpy br g5 24) (zv_cpy wc g7 24) (zv_cpy wr g9 24) m := yk_sky_cg k (fun j j1 j2 => zv_cpy_in j2) (fun j j1 j2 => zv_cpy_in j2) (fun j j1 j2 => zv_cpy_in j2) (fun j j1 j2 => zv_cpy_in j2) (fun j j1 j2 => zv_cpy_in j2) (fun _ _ _ => rfl)
  generalize zv_cpy co g1 24 = co2 at k2 hB ⊢
  generalize zv_cpy ro g3 24 = ro2 at k2 hB ⊢
  generalize zv_cpy br g5 24 = br2 at k2 hB ⊢
  generalize zv_cpy wc g7 24 = wc2 at k2 ⊢
  generalize zv_cpy wr g9 24 = wr2 at k2 ⊢
  refine zh_bind (Q := fun q => ym_hb B q.1) (zh_loop (F := fun n i (a : Int × Int × Int × Int × Int × Int × Int × Int × Int × (Int → Int) × (Int → Int) × (Int → Int) × (Int → Int) × (Int → Int) × (Int → Int) × (Int → Int) × (Int → Int)) => zf_X_when_l0 x y t u cl sc sr tS nc sP ni tL lP co2 ro2 br2 kd hf to K V nr n a.1 i a.2.1 a.2.2.1 a.2.2.2.1 a.2.2.2.2.1 a.2.2.2.2.2.1 a.2.2.2.2.2.2.1 a.2.2.2.2.2.2.2.1 a.2.2.2.2.2.2.2.2.1 a.2.2.2.2.2.2.2.2.2.1 a.2.2.2.2.2.2.2.2.2.2.1 a.2.2.2.2.2.2.2.2.2.2.2.1 a.2.2.2.2.2.2.2.2.2.2.2.2.1 a.2.2.2.2.2.2.2.2.2.2.2.2.2.1 a.2.2.2.2.2.2.2.2.2.2.2.2.2.2.1 a.2.2.2.2.2.2.2.2.2.2.2.2.2.2.2.1 a.2.2.2.2.2.2.2.2.2.2.2.2.2.2.2.2) (N := 24)
      (I := fun i a => (z24 a.1 ∧ ∀ j, zb a.1 j = (decide (j < i.toNat) && B j)) ∧ yw_so a.2.2.2.2.2.2.2.2.2.2.2.2.2.2.2.2) (fun n i a i0 i1 ha kk => ?_) 24 0 (0, h, f19, f20, f21, f22, f24, f26, f33, g10, g11, g16, g18, g19, g20, g22, g23) zi_fu (by decide) (by decide) (by decide) (by decide) ⟨⟨z24_0, fun j => by rw [zb_0, decide_eq_false (show ¬ j < Int.toNat 0 from Nat.not_lt_zero j), Bool.false_and]⟩, hs⟩) fun q hq => zh_ret hq
  obtain ⟨a1, a2, a3, a4, a5, a6, a7, a8, a9, a10, a11, a12, a13, a14, a15, a16, a17⟩ := a
  obtain ⟨⟨ha1, ha2⟩, ha⟩ := ha
  show zh_ok (zf_X_when_l0_b x y t u cl sc sr tS nc sP ni tL lP co2 ro2 br2 kd hf to K V nr (zf_X_when_l0 x y t u cl sc sr tS nc sP ni tL lP co2 ro2 br2 kd hf to K V nr n) a1 i a2 a3 a4 a5 a6 a7 a8 a9 a10 a11 a12 a13 a14 a15 a16 a17) _
  unfold zf_X_when_l0_b
  obtain ⟨v, rfl⟩ : ∃ v : Nat, i = v := ⟨i.toNat, by omega⟩
  have ha2 : ∀ j, zb a1 j = (decide (j < v) && B j) := ha2
  refine zh_ite (fun hi => ?_) fun hi => zh_ret ⟨ha1, fun j => by rw [ha2, show v = 24 by omega]⟩
  have hv : v < 24 := by omega
  obtain ⟨gA, e0, h0⟩ := ze_open (f := a3) (g := a10)
  rw [e0, zl_b, ze_X_placeOf x1 x2 y1 y2, zl_b, zi_w_id (x := (v : Int) + 1) (by omega) (by omega)]
  dsimp only
  have k3 := yk_hour (h2 := (v : Int)) (u2 := u) (m2 := zv_up m 128 (v : Int)) k2 i0 (by omega) zv_up_s (by rw [zv_up_n (by decide)]; exact k2.2.2.1) (fun j j1 _ => zv_up_n j1)
  have grow := zb_grow (s := a1) (i := (v : Int)) (n := v) (P := B) rfl hv ha2
  have e1 : ((v : Int) + 1).toNat = v + 1 := by omega
  have k4 : ∀ b1 b2 b3 b4 b5 b6 b7 b8 b9 b10 b11 b12 b13 b14 b15 b16 b17, z24 b1 → (∀ j, zb b1 j = (decide (j < v + 1) && B j)) → yw_so b17 → zh_ok (zf_X_when_l0 x y t u cl sc sr tS nc sP ni tL lP co2 ro2 br2 kd hf to K V nr n b1 ((v : Int) + 1) b2 b3 b4 b5 b6 b7 b8 b9 b10 b11 b12 b13 b14 b15 b16 b17) _ := fun b1 b2 b3 b4 b5 b6 b7 b8 b9 b10 b11 b12 b13 b14 b15 b16 b17 q1 q2 q3 => kk (b1, b2, b3, b4, b5, b6, b7, b8, b9, b10, b11, b12, b13, b14, b15, b16, b17) hi ⟨⟨q1, by rw [e1]; exact q2⟩, q3⟩
  refine zh_bind (yw_cbtXE R k3 tl (by omega) (by omega) yv_ca0 (yv_cp0 h0) ha) fun r8 h8 => ?_
  rcases h8.2 with ⟨c1, c2⟩ | ⟨c1, c2⟩
  · rw [if_pos ((hB v hv).mpr c2)] at grow
    rw [if_neg (by rw [c1]; decide)]
    exact k4 _ _ _ _ _ _ _ _ _ _ _ _ _ _ _ _ _ (z24_or ha1 (z24_shl i0 hi)) grow h8.1.2.2
  · rw [if_neg fun w => c2 ((hB v hv).mp w)] at grow
    rw [if_pos c1]
    exact k4 _ _ _ _ _ _ _ _ _ _ _ _ _ _ _ _ _ ha1 grow h8.1.2.2
theorem yw_whenME (R : yl_R L K V nc tS tL sP lP kd fr hf to mc C mk mf mh mt) (k : yk_sky t h u cl sc sr ch co ro br wc wr m) (tl : yk_tl n ni nr tf tt) {x y f2 f3 : Int} {g2 g6 g7 g8 g9 g12 : Int → Int} (q : ¬ zs_pl x y = 0) (hn : n ≠ 0) {B : Nat → Bool}
    (hB : ∀ i : Nat, i < 24 → (B i = true ↔ ym_tv L tS t i u cl sc sr co ro br nr ni (24 * y + x))) :
    zh_ok (zf_M_when x y n mc f2 f3 ni m mk g2 mh mt C g6 g7 g8 g9 tf tt g12) fun o => ym_hb B o.1 := by
  unfold zf_M_when
  rw [ze_M_isPlace, zl_b, if_neg q, if_neg hn]
  obtain ⟨x1, x2, y1, y2⟩ := zs_pl_ne q
  refine zh_bind (Q := fun q => ym_hb B q.1) (zh_loop (F := fun f i (a : Int × Int × Int × (Int → Int) × (Int → Int) × (Int → Int) × (Int → Int) × (Int → Int) × (Int → Int) × (Int → Int)) => zf_M_when_l0 x y n mc ni mk mh mt C tf tt f a.1 i a.2.1 a.2.2.1 a.2.2.2.1 a.2.2.2.2.1 a.2.2.2.2.2.1 a.2.2.2.2.2.2.1 a.2.2.2.2.2.2.2.1 a.2.2.2.2.2.2.2.2.1 a.2.2.2.2.2.2.2.2.2) (N := 24) (I := fun i a => (z24 a.1 ∧ ∀ j, zb a.1 j = (decide (j < i.toNat) && B j)) ∧ ∀ j, j ≠ 128 → a.2.2.2.1 j = m j) (fun f i a i0 i1 ha kk => ?_) 24 0 (0, f2, f3, m, g2, g6, g7, g8, g9, g12) zi_fu (by decide) (by decide) (by decide) (by decide) ⟨⟨z24_0, fun j => by rw [zb_0, decide_eq_false (show ¬ j < Int.toNat 0 from Nat.not_lt_zero j), Bool.false_and]⟩, fun _ _ => rfl⟩) fun q hq => zh_ret hq
  obtain ⟨a1, a2, a3, a4, a5, a6, a7, a8, a9, a10⟩ := a
  obtain ⟨⟨ha1, ha2⟩, ha⟩ := ha
  show zh_ok (zf_M_when_l0_b x y n mc ni mk mh mt C tf tt (zf_M_when_l0 x y n mc ni mk mh mt C tf tt f) a1 i a2 a3 a4 a5 a6 a7 a8 a9 a10) _
  unfold zf_M_when_l0_b
  obtain ⟨v, rfl⟩ : ∃ v : Nat, i = v := ⟨i.toNat, by omega⟩
  have ha2 : ∀ j, zb a1 j = (decide (j < v) && B j) := ha2
  have ha : ∀ j, j ≠ 128 → a4 j = m j := ha
  refine zh_ite (fun hi => ?_) fun hi => zh_ret ⟨ha1, fun j => by rw [ha2, show v = 24 by omega]⟩
  have hv : v < 24 := by omega
  have hm : ∀ j, j ≠ 128 → zv_up a4 128 (v : Int) j = m j := fun j j1 => by rw [zv_up_n j1]; exact ha j j1
  have k2 := yk_hour (h2 := (v : Int)) (u2 := u) (m2 := zv_up a4 128 (v : Int)) k i0 (by omega) zv_up_s (by rw [hm 129 (by decide)]; exact k.2.2.1) (fun j j1 _ => hm j j1)
  rw [zi_w_id (x := (v : Int) + 1) (by omega) (by omega), zi_w_id (x := 24 * y) (by omega) (by omega), zi_w_id (x := 24 * y + x) (by omega) (by omega)]
  have grow := zb_grow (s := a1) (i := (v : Int)) (n := v) (P := B) rfl hv ha2
  have e1 : ((v : Int) + 1).toNat = v + 1 := by omega
  refine zh_bind (yw_cbtME R k2 tl hn (by omega) (by omega)) fun r5 h5 => ?_
  rcases h5.1 with ⟨c1, c2⟩ | ⟨c1, c2⟩
  · rw [if_pos ((hB v hv).mpr c2)] at grow
    rw [if_neg (by rw [c1]; decide)]
    exact kk (_, _, _, _, _, _, _, _, _, _) hi ⟨⟨z24_or ha1 (z24_shl i0 hi), by rw [e1]; exact grow⟩, hm⟩
  · rw [if_neg fun w => c2 ((hB v hv).mp w)] at grow
    rw [if_pos c1]
    exact kk (_, _, _, _, _, _, _, _, _, _) hi ⟨⟨ha1, by rw [e1]; exact grow⟩, hm⟩
theorem yo_when (R : yl_R L K V nc tS tL sP lP kd fr hf to mc C mk mf mh mt) (k : yk_sky t h u cl sc sr ch co ro br wc wr m) (tl : yk_tl n ni nr tf tt) {x y f3 f5 f7 f9 f11 f13 f15 f19 f20 f21 f22 f24 f26 f33 f1 f2 : Int} {g1 g3 g5 g7 g9 g10 g11 g16 g18 g19 g20 g22 g23 e2 e6 e7 e8 e9 e12 : Int → Int} (hs : yw_so g23) :
    ∃ o1 o2, zf_X_when x y n t f3 h f5 u f7 cl f9 sc f11 sr f13 ch f15 f19 f20 f21 f22 tS f24 nc f26 sP ni tL lP f33 co g1 ro g3 br g5 wc g7 wr g9 g10 g11 kd hf to K g16 V g18 g19 g20 nr g22 g23 = some o1 ∧ zf_M_when x y n mc f1 f2 ni m mk e2 mh mt C e6 e7 e8 e9 tf tt e12 = some o2 ∧ o1.1 = o2.1 ∧ yw_so o1.2.2.2.2.2.2.2.2.2.2.2.2.2.2.2.2.2.2.2.2.2.2.2.2.2.2.2 ∧ ∀ j, o2.2.2.2.1 j = m j := by
  obtain ⟨oX, eX, hX⟩ := yw_whenX (x := x) (y := y) (n := n) (f3 := f3) (f5 := f5) (f7 := f7) (f9 := f9) (f11 := f11) (f13 := f13) (f15 := f15) (f19 := f19) (f20 := f20) (f21 := f21) (f22 := f22) (f24 := f24) (f26 := f26) (f28 := ni) (f33 := f33) (g1 := g1) (g3 := g3) (g5 := g5) (g7 := g7) (g9 := g9) (g10 := g10) (g11 := g11) (g16 := g16) (g18 := g18) (g19 := g19) (g20 := g20) (g21 := nr) (g22 := g22) R k hs
  obtain ⟨oM, eM, hM⟩ := yw_whenM (x := x) (y := y) (f2 := f1) (f3 := f2) (g2 := e2) (g6 := e6) (g7 := e7) (g8 := e8) (g9 := e9) (g12 := e12) R k tl
  refine ⟨oX, oM, eX, eM, ?_, hX, hM⟩
  by_cases q : zs_pl x y = 0
  · unfold zf_X_when at eX
    unfold zf_M_when at eM
    rw [ze_X_isPlace, zl_b, if_pos q] at eX
    rw [ze_M_isPlace, zl_b, if_pos q] at eM
    cases eX; cases eM; rfl
  by_cases hn : n = 0
  · unfold zf_X_when at eX
    unfold zf_M_when at eM
    rw [ze_X_isPlace, zl_b, if_neg q, if_pos hn] at eX
    rw [ze_M_isPlace, zl_b, if_neg q, if_pos hn] at eM
    cases eX; cases eM; rfl
  have k2 : yk_sky t h u cl sc sr ch (zv_cpy co g1 24) (zv_cpy ro g3 24) (zv_cpy br g5 24) (zv_cpy wc g7 24) (zv_cpy wr g9 24) m := yk_sky_cg k (fun j j1 j2 => zv_cpy_in j2) (fun j j1 j2 => zv_cpy_in j2) (fun j j1 j2 => zv_cpy_in j2) (fun j j1 j2 => zv_cpy_in j2) (fun j j1 j2 => zv_cpy_in j2) (fun _ _ _ => rfl)
  have hB : ∀ i : Nat, i < 24 → ((fun i : Nat => @decide (ym_tv L tS t i u cl sc sr (zv_cpy co g1 24) (zv_cpy ro g3 24) (zv_cpy br g5 24) nr ni (24 * y + x)) (Classical.propDecidable _)) i = true ↔ ym_tv L tS t i u cl sc sr (zv_cpy co g1 24) (zv_cpy ro g3 24) (zv_cpy br g5 24) nr ni (24 * y + x)) := fun i _ => by
    exact @decide_eq_true_iff _ (Classical.propDecidable _)
  obtain ⟨o1, e1, h1⟩ := yw_whenXE (f3 := f3) (f5 := f5) (f7 := f7) (f9 := f9) (f11 := f11) (f13 := f13) (f15 := f15) (f19 := f19) (f20 := f20) (f21 := f21) (f22 := f22) (f24 := f24) (f26 := f26) (f33 := f33) (g1 := g1) (g3 := g3) (g5 := g5) (g7 := g7) (g9 := g9) (g10 := g10) (g11 := g11) (g16 := g16) (g18 := g18) (g19 := g19) (g20 := g20) (g22 := g22) R k tl hs q hn hB
  obtain ⟨o2, e3, h2⟩ := yw_whenME (f2 := f1) (f3 := f2) (g2 := e2) (g6 := e6) (g7 := e7) (g8 := e8) (g9 := e9) (g12 := e12) R k2 tl q hn hB
  rw [eX] at e1
  rw [eM] at e3
  cases e1; cases e3
  exact ym_hb_u h1 h2
theorem yo_both (R : yl_R L K V nc tS tL sP lP kd fr hf to mc C mk mf mh mt) (k : yk_sky t h u cl sc sr ch co ro br wc wr m) (tl : yk_tl n ni nr tf tt) {x y w f3 f4 f5 f8 f14 f16 f22 f23 f24 f25 f26 f31 f1 f2 : Int} {g0 g1 g9 g11 g12 g13 g14 g15 g16 g18 g19 e2 e6 e7 e8 e9 e10 e13 : Int → Int} (hs : yw_so g19) :
    ∃ o1 o2, zf_X_both x y w f3 f4 f5 h u f8 t sc sr cl tS f14 nc f16 sP tL lP f22 f23 f24 f25 f26 n f31 ni g0 g1 co ro br kd hf to K g9 V g11 g12 g13 g14 g15 g16 nr g18 g19 = some o1 ∧ zf_M_both x y w mc f1 n f2 ni m mk e2 mh mt C e6 e7 e8 e9 e10 tf tt e13 = some o2 ∧ o1.1 = o2.1 ∧ yw_so o1.2.2.2.2.2.2.2.2.2.2.2.2.2.2.2.2.2.2.2.2.2.2.2 := by
  obtain ⟨oX, eX, hX⟩ := yw_bothX (x := x) (y := y) (w := w) (n := n) (f3 := f3) (f4 := f4) (f5 := f5) (f8 := f8) (f14 := f14) (f16 := f16) (f22 := f22) (f23 := f23) (f24 := f24) (f25 := f25) (f26 := f26) (f31 := f31) (f32 := ni) (g0 := g0) (g1 := g1) (g9 := g9) (g11 := g11) (g12 := g12) (g13 := g13) (g14 := g14) (g15 := g15) (g16 := g16) (g17 := nr) (g18 := g18) R k hs
  obtain ⟨oM, eM, -⟩ := yw_bothM (x := x) (y := y) (w := w) (f1 := f1) (f3 := f2) (g2 := e2) (g6 := e6) (g7 := e7) (g8 := e8) (g9 := e9) (g10 := e10) (g13 := e13) R k tl
  refine ⟨oX, oM, eX, eM, ?_, hX⟩
  unfold zf_X_both at eX
  unfold zf_M_both at eM
  rw [ze_X_isWithin, zl_b] at eX
  rw [ze_M_in, zl_b] at eM
  by_cases q1 : zs_in x 0 287 = 0
  · rw [if_pos q1] at eX eM
    cases eX; cases eM; rfl
  rw [if_neg q1, ze_X_isWithin, zl_b] at eX
  rw [if_neg q1, ze_M_in, zl_b] at eM
  by_cases q2 : zs_in y 0 287 = 0
  · rw [if_pos q2] at eX eM
    cases eX; cases eM; rfl
  rw [if_neg q2, ze_X_isWithin, zl_b] at eX
  rw [if_neg q2, ze_M_in, zl_b] at eM
  by_cases q3 : zs_in w 0 2 = 0
  · rw [if_pos q3] at eX eM
    cases eX; cases eM; rfl
  rw [if_neg q3] at eX eM
  obtain ⟨x1, x2⟩ := zs_in_ne q1
  obtain ⟨y1, y2⟩ := zs_in_ne q2
  have hni := tl.2.2.2.1
  obtain ⟨f3', s1, f14', f16', g0', g1', g9', J1, g12', a1, i1, l1⟩ := yx_lad (f3 := f3) (f4 := f4) (f5 := f5) (f8 := f8) (f14 := f14) (f16 := f16) (g0 := g0) (g1 := g1) (g9 := g9) (g11 := g11) (g12 := g12) (x := x % 24) (y := x / 24) R k (by omega) (by omega) (by omega) (by omega)
  obtain ⟨f3'', s2, f14'', f16'', g0'', g1'', g9'', J2, g12'', a2, i2, l2⟩ := yx_lad (f3 := f22) (f4 := f23) (f5 := f24) (f8 := f25) (f14 := f26) (f16 := f16') (g0 := g13) (g1 := g1') (g9 := g9') (g11 := g14) (g12 := g15) (x := y % 24) (y := y / 24) R k (by omega) (by omega) (by omega) (by omega)
  obtain ⟨G, a3, hG⟩ := yb_keep (f0 := s1) (f1 := s2) (g := J1) (g1 := J2)
  obtain ⟨g2', g6', Hh, g8', a4, hH⟩ := ym_both (p := x) (q := y) (f1 := f1) (g2 := e2) (g6 := e6) (g7 := e7) (g8 := e8) R k x1 (by omega) y1 (by omega) i1 l1 i2 l2
  have eJ : ∀ i : Int, 0 ≤ i → i < 24 → G i = Hh i := fun i i0 i1 => by rw [hG i i0 i1, hH i i0 i1]
  have zG : ∀ j : Nat, j < 24 → z24 (G j) := fun j hj => by rw [hG j (by omega) (by omega)]; exact z24_and (l1 j hj).1
  have hGH : ∀ P : Int → Int, (∀ i : Int, 0 ≤ i → i < 24 → P i = zi_and (J1 i) (J2 i)) → (∀ i : Nat, i < 24 → z24 (P i) ∧ zb (P i) i = false) ∧ ∀ i j : Nat, i < 24 → j < 24 → zb (P i) j = zb (P j) i := fun P hP => by
    refine ⟨fun i hi => ?_, fun i j hi hj => ?_⟩
    · rw [hP i (by omega) (by omega)]
      refine ⟨z24_and (l1 i hi).1, ?_⟩
      rw [zb_and, ((yv_il_H l1).1 i hi).2, Bool.false_and]
    · rw [hP i (by omega) (by omega), hP j (by omega) (by omega), zb_and, zb_and, (yv_il_H l1).2 i j hi hj, (yv_il_H l2).2 i j hi hj]
  obtain ⟨c, b1, b2, -⟩ := yo_lines (G := G) (H := Hh) zG fun j hj => eJ j (by omega) (by omega)
  have hz : z24 (zi_and s1 s2) := z24_and i1.1
  by_cases q4 : w = 0
  · rw [if_pos q4] at eX eM
    by_cases hn : n = 0
    · rw [if_pos hn] at eX eM
      cases eX; cases eM; rfl
    rw [if_neg hn, ze_X_columnOf x1 (by omega), zl_b, ze_X_rowOf x1 (by omega), zl_b, a1, zl_b, ze_X_columnOf y1 (by omega), zl_b, ze_X_rowOf y1 (by omega), zl_b] at eX
    dsimp only at eX
    rw [a2, zl_b] at eX
    dsimp only at eX
    rw [a3, zl_b, if_pos q4] at eX
    rw [if_neg hn, a4, zl_b] at eM
    dsimp only at eX eM
    obtain ⟨H, HN⟩ := yk_tl_H tl (hGH G hG).1 (hGH G hG).2
    obtain ⟨H2, -⟩ := yk_tl_H tl (hGH Hh hH).1 (hGH Hh hH).2
    obtain ⟨r, er, h1, -⟩ := ym_count H HN hz hni (yk_tl_8 tl) (most := 10000) (f2 := f31) (g1 := g16) (g3 := g18) (g4 := g19) (by decide) (by decide)
    obtain ⟨r2, Nn, nm, S2, g3, a5, hnm, -, Ls, eL, er2, -⟩ := yw_ways (most := 10000) (z := zi_and s1 s2) (J := Hh) (f0 := f2) (g0 := e9) (g1 := e10) (g5 := e13) tl hn (by decide) (by decide)
    have hlen : Ls.length = ym_A (zi_and s1 s2) nr Hh ni := by rw [eL]; exact yw_L_A tl hnm H2
    rw [er, zl_b] at eX
    rw [a5, zl_b] at eM
    cases eX; cases eM
    show r.1 = r2
    rw [h1, er2, hlen, ym_A_cg eJ]
  · rw [if_neg q4] at eX eM
    rw [ze_X_columnOf x1 (by omega), zl_b, ze_X_rowOf x1 (by omega), zl_b, a1, zl_b, ze_X_columnOf y1 (by omega), zl_b, ze_X_rowOf y1 (by omega), zl_b] at eX
    dsimp only at eX
    rw [a2, zl_b] at eX
    dsimp only at eX
    rw [a3, zl_b] at eX
    rw [a4, zl_b] at eM
    dsimp only at eX eM
    by_cases q5 : w = 1
    · rw [if_pos q5] at eX eM
      cases eX; cases eM; rfl
    · rw [if_neg q5] at eX eM
      rw [b1, zl_b] at eX
      rw [b2, zl_b] at eM
      cases eX; cases eM; rfl
end YTX
end
section
/-! The next set with as many: there is none between. -/
def yz (x K : Nat) : Int := yn_n (fun j => x.testBit j) K
theorem yn_split {f : Nat → Bool} {s : Nat} : ∀ K : Nat, yn_n f (s + K) = yn_n f s + yn_n (fun j => f (s + j)) K
  | 0 => by show yn_n f s = yn_n f s + 0; omega
  | K + 1 => by
    show yn_n f (s + K) + (if f (s + K) = true then 1 else 0) = yn_n f s + (yn_n (fun j => f (s + j)) K + (if f (s + K) = true then 1 else 0))
    rw [yn_split K]; omega
theorem yz_add {a b s K : Nat} (h : b < 2 ^ s) : yz (2 ^ s * a + b) (s + K) = yz b s + yz a K := by
  unfold yz
  rw [yn_split]
  rw [yn_eq (f := fun j => (2 ^ s * a + b).testBit j) (g := fun j => b.testBit j) s fun j hj => by rw [Nat.testBit_two_pow_mul_add a h j, if_pos hj]]
  rw [yn_eq (f := fun j => (2 ^ s * a + b).testBit (s + j)) (g := fun j => a.testBit j) K fun j hj => by rw [Nat.testBit_two_pow_mul_add a h (s + j), if_neg (by omega), Nat.add_sub_cancel_left]]
theorem yz_in {x K : Nat} : 0 ≤ yz x K ∧ yz x K ≤ K := yn_in K
theorem yz_cut {x s K : Nat} (h : x < 2 ^ s) : yz x (s + K) = yz x s :=
  yn_cut (fun j hj => Nat.testBit_lt_two_pow (Nat.lt_of_lt_of_le h (Nat.pow_le_pow_right (by decide) hj))) K
theorem yn_full {f : Nat → Bool} : ∀ n : Nat, (∀ j, j < n → f j = true) → yn_n f n = n
  | 0, _ => rfl
  | n + 1, h => by
    show yn_n f n + (if f n = true then 1 else 0) = ((n + 1 : Nat) : Int)
    rw [yn_full n fun j hj => h j (by omega), h n (Nat.lt_succ_self n), if_pos rfl]; rfl
theorem yz_ones {m : Nat} : yz (2 ^ m - 1) m = m := yn_full m fun j hj => by
  rw [Nat.testBit_two_pow_sub_one, decide_eq_true hj]
theorem yz_few {v m : Nat} (h : v < 2 ^ m - 1) : yz v m ≤ (m : Int) - 1 := by
  have b := (yz_in (x := v) (K := m)).2
  by_cases e : yz v m = m
  · have all := yn_all m e
    have ev : v = 2 ^ m - 1 := Nat.eq_of_testBit_eq fun j => by
      rw [Nat.testBit_two_pow_sub_one]
      by_cases hj : j < m
      · rw [decide_eq_true hj]; exact all j hj
      · rw [decide_eq_false hj]
        exact Nat.testBit_lt_two_pow (Nat.lt_of_lt_of_le (show v < 2 ^ m by omega) (Nat.pow_le_pow_right (by decide) (by omega)))
    omega
  · omega
theorem yz_pos {w k : Nat} (h : w < 2 ^ k) (h0 : w ≠ 0) : 1 ≤ yz w k := by
  obtain ⟨j, hj⟩ := Nat.exists_testBit_of_ne_zero h0
  have hjk : j < k := by
    by_cases c : j < k
    · exact c
    · rw [Nat.testBit_lt_two_pow (Nat.lt_of_lt_of_le h (Nat.pow_le_pow_right (by decide) (by omega)))] at hj
      cases hj
  have l := yn_lt (f := fun _ => false) (g := fun j => w.testBit j) (k := j) (by decide) hj k hjk fun i _ hi => (by cases hi)
  have l0 := (yn_in (f := fun _ => false) k).1
  have l : yn_n (fun _ => false) k + 1 ≤ yz w k := l
  generalize yn_n (fun _ => false) k = q at l l0
  omega
theorem yz_1 : yz 1 1 = 1 := by decide
theorem yz_0 {k : Nat} : yz 0 k = 0 := by
  have := yn_eq (f := fun j => (0 : Nat).testBit j) (g := fun _ => false) k fun j _ => Nat.zero_testBit j
  unfold yz
  rw [this]
  have c := yn_cut (f := fun _ => false) (n := 0) (fun _ _ => rfl) k
  rw [Nat.zero_add] at c
  exact c
/-- the block of ones, and what comes next -/
theorem yz_block {k m : Nat} : yz (2 ^ k * (2 ^ m - 1)) (k + (m + 1)) = m := by
  have e := yz_add (a := 2 ^ m - 1) (b := 0) (s := k) (K := m + 1) (Nat.two_pow_pos k)
  rw [Nat.add_zero] at e
  have hp := Nat.two_pow_pos m
  rw [e, yz_0, yz_cut (by omega), yz_ones, Int.zero_add]
theorem yz_nblock {k m : Nat} (hm : 1 ≤ m) : yz (2 ^ (k + m) * 1 + (2 ^ (m - 1) - 1)) (k + m + 1) = m := by
  have hp := Nat.two_pow_pos (m - 1)
  have le : 2 ^ (m - 1) ≤ 2 ^ (k + m) := Nat.pow_le_pow_right (by decide) (by omega)
  rw [yz_add (by omega), yz_1, show k + m = (m - 1) + (k + 1) by omega, yz_cut (by omega), yz_ones]
  omega
theorem yz_bet {k m u : Nat} (hm : 1 ≤ m) (h1 : 2 ^ k * (2 ^ m - 1) < u) (h2 : u < 2 ^ (k + m) + (2 ^ (m - 1) - 1)) : yz u (k + m + 1) ≠ m := by
  have hpk := Nat.two_pow_pos k
  have hpm := Nat.two_pow_pos m
  by_cases c : u < 2 ^ (k + m)
  · have hw : u % 2 ^ k < 2 ^ k := Nat.mod_lt _ hpk
    have eu := Nat.div_add_mod u (2 ^ k)
    have hdiv : u / 2 ^ k = 2 ^ m - 1 := by
      apply Nat.le_antisymm
      · have : u / 2 ^ k < 2 ^ m := (Nat.div_lt_iff_lt_mul hpk).mpr (by rw [Nat.mul_comm, ← Nat.pow_add]; exact c)
        omega
      · exact (Nat.le_div_iff_mul_le hpk).mpr (by rw [Nat.mul_comm]; exact Nat.le_of_lt h1)
    rw [hdiv] at eu
    have hne : u % 2 ^ k ≠ 0 := fun e => by rw [e] at eu; omega
    have e := yz_add (a := 2 ^ m - 1) (b := u % 2 ^ k) (s := k) (K := m + 1) hw
    rw [eu, yz_cut (show 2 ^ m - 1 < 2 ^ m by omega), yz_ones] at e
    have l := yz_pos hw hne
    rw [show k + m + 1 = k + (m + 1) by omega, e]
    omega
  · have hp := Nat.two_pow_pos (m - 1)
    have le : 2 ^ (m - 1) ≤ 2 ^ (k + m) := Nat.pow_le_pow_right (by decide) (by omega)
    obtain ⟨v, ev⟩ : ∃ v, u = 2 ^ (k + m) * 1 + v := ⟨u - 2 ^ (k + m), by omega⟩
    have hv : v < 2 ^ (m - 1) - 1 := by omega
    rw [ev, yz_add (by omega), yz_1, show k + m = (m - 1) + (k + 1) by omega, yz_cut (by omega)]
    have := yz_few hv
    omega
/-- a number is an odd one times a power of 2 -/
theorem yz_odd : ∀ n : Nat, 0 < n → ∃ k b : Nat, n = 2 ^ k * (2 * b + 1) := by
  intro n
  induction n using Nat.strongRecOn with
  | ind n ih =>
    intro h
    by_cases e : n % 2 = 0
    · obtain ⟨k, b, hb⟩ := ih (n / 2) (by omega) (by omega)
      refine ⟨k + 1, b, ?_⟩
      rw [Nat.pow_succ, Nat.mul_comm (2 ^ k) 2, Nat.mul_assoc, ← hb]
      omega
    · exact ⟨0, n / 2, by rw [Nat.pow_zero, Nat.one_mul]; omega⟩
theorem yz_form {x : Nat} (h : 0 < x) : ∃ k m a : Nat, 1 ≤ m ∧ x = 2 ^ (k + m + 1) * a + 2 ^ k * (2 ^ m - 1) := by
  obtain ⟨k, b, hb⟩ := yz_odd x h
  obtain ⟨m, a, ha⟩ := yz_odd (2 * b + 2) (by omega)
  refine ⟨k, m, a, ?_, ?_⟩
  · by_cases e : m = 0
    · subst e; rw [Nat.pow_zero] at ha; omega
    · omega
  · have hp := Nat.two_pow_pos m
    have e1 : 2 * b + 1 = 2 ^ (m + 1) * a + (2 ^ m - 1) := by
      rw [Nat.pow_succ, Nat.mul_comm (2 ^ m) 2, Nat.mul_assoc]
      have e2 : 2 ^ m * (2 * a + 1) = 2 * (2 ^ m * a) + 2 ^ m := by
        rw [Nat.mul_add, Nat.mul_one, Nat.mul_left_comm]
      rw [e2] at ha
      omega
    rw [hb, e1, Nat.mul_add, ← Nat.mul_assoc, ← Nat.pow_add, show k + (m + 1) = k + m + 1 by omega]
theorem yz_step {k m a : Nat} (hm : 1 ≤ m) : ((2 ^ (k + m + 1) * a + 2 ^ k * (2 ^ m - 1)) + 2 ^ k) = 2 ^ (k + m + 1) * a + 2 ^ (k + m) ∧
    ((2 ^ (k + m + 1) * a + 2 ^ k * (2 ^ m - 1)) ^^^ (2 ^ (k + m + 1) * a + 2 ^ (k + m))) / 2 ^ k / 4 = 2 ^ (m - 1) - 1 := by
  have hpk := Nat.two_pow_pos k
  have hpm := Nat.two_pow_pos m
  have e1 : 2 ^ k * (2 ^ m - 1) + 2 ^ k = 2 ^ (k + m) := by
    rw [Nat.pow_add, Nat.mul_sub, Nat.mul_one]
    have : 2 ^ k ≤ 2 ^ k * 2 ^ m := Nat.le_mul_of_pos_right _ hpm
    omega
  have hlt : 2 ^ (k + m) < 2 ^ (k + m + 1) := Nat.pow_lt_pow_right (by decide) (by omega)
  refine ⟨by omega, ?_⟩
  have ex : (2 ^ (k + m + 1) * a + 2 ^ k * (2 ^ m - 1)) ^^^ (2 ^ (k + m + 1) * a + 2 ^ (k + m)) = 2 ^ k * (2 ^ (m + 1) - 1) := Nat.eq_of_testBit_eq fun j => by
    rw [Nat.testBit_xor, Nat.testBit_two_pow_mul_add a (by omega) j, Nat.testBit_two_pow_mul_add a hlt j, Nat.testBit_two_pow_mul, Nat.testBit_two_pow_sub_one, Nat.testBit_two_pow_mul, Nat.testBit_two_pow_sub_one, Nat.testBit_two_pow]
    by_cases c : j < k + m + 1
    · rw [if_pos c, if_pos c]
      by_cases c1 : j ≥ k
      · rw [decide_eq_true c1, Bool.true_and, Bool.true_and]
        by_cases c2 : k + m = j
        · rw [decide_eq_true c2, decide_eq_false (by omega), decide_eq_true (by omega)]; rfl
        · rw [decide_eq_false c2, decide_eq_true (show j - k < m by omega), decide_eq_true (by omega)]; rfl
      · rw [decide_eq_false c1, Bool.false_and, Bool.false_and, decide_eq_false (by omega)]; rfl
    · rw [if_neg c, if_neg c, Bool.xor_self, decide_eq_false (show ¬ j - k < m + 1 by omega), Bool.and_false]
  rw [ex, Nat.mul_div_cancel_left _ hpk]
  have e4 : 2 ^ (m + 1) = 4 * 2 ^ (m - 1) := by
    rw [show m + 1 = 2 + (m - 1) by omega, Nat.pow_add]
  have := Nat.two_pow_pos (m - 1)
  rw [e4]
  omega
theorem yn_zb {t : Int} (t0 : 0 ≤ t) (t1 : t < 16777216) : yn_n (zb t) 24 = yz t.toNat 24 := yn_eq 24 fun j _ => zb_tb t0 (by omega)
theorem zw_gosx {α : Type} {x : Int} {k : Int → Option α} {P : α → Prop} (h1 : 0 < x) (h2 : x < 16777216) (h : ∀ v, x < v → v < 67108864 → (∀ t : Int, x < t → t < v → t < 16777216 → yn_n (zb t) 24 ≠ yn_n (zb x) 24) → (v < 16777216 → yn_n (zb v) 24 = yn_n (zb x) 24) → zh_ok (k v) P) :
    zh_ok (cond (zi_ne (zi_and x (zi_w (-x)))) (zi_let (zi_or (zi_w (x + (zi_and x (zi_w (-x))))) (zi_shr (zi_div (zi_xor x (zi_w (x + (zi_and x (zi_w (-x)))))) (zi_and x (zi_w (-x)))) 2)) k) none) P := by
  obtain ⟨r, r24, rb, rl, e, le⟩ := zw_low h1 h2
  obtain ⟨kk, m, a, hm, hx⟩ := yz_form (x := x.toNat) (by omega)
  have tb : ∀ j, zb x j = x.toNat.testBit j := fun j => zb_tb (by omega) (by omega)
  have hpm := Nat.two_pow_pos m
  have hblk : 2 ^ kk * (2 ^ m - 1) < 2 ^ (kk + m + 1) := by
    have : 2 ^ kk * (2 ^ m - 1) ≤ 2 ^ kk * 2 ^ m := Nat.mul_le_mul_left _ (by omega)
    rw [← Nat.pow_add] at this
    have : 2 ^ (kk + m) < 2 ^ (kk + m + 1) := Nat.pow_lt_pow_right (by decide) (by omega)
    omega
  have bits : ∀ j, j < kk + m + 1 → x.toNat.testBit j = (decide (j ≥ kk) && decide (j - kk < m)) := fun j hj => by
    rw [hx, Nat.testBit_two_pow_mul_add a hblk j, if_pos hj, Nat.testBit_two_pow_mul, Nat.testBit_two_pow_sub_one]
  have erk : r = kk := by
    by_cases c : r < kk
    · rw [tb, bits r (by omega), decide_eq_false (by omega), Bool.false_and] at rb
      cases rb
    · by_cases c2 : kk < r
      · have := rl kk c2
        rw [tb, bits kk (by omega), decide_eq_true (Nat.le_refl kk), decide_eq_true (by omega)] at this
        cases this
      · omega
  subst erk
  obtain ⟨s1, s2⟩ := yz_step (k := r) (m := m) (a := a) hm
  rw [← hx] at s1 s2
  have hp : 0 < 2 ^ r := Nat.two_pow_pos r
  rw [e]
  refine zh_cond (zi_ne_of (by omega)) ?_
  have es : x + ((2 ^ r : Nat) : Int) = ((2 ^ (r + m + 1) * a + 2 ^ (r + m) : Nat) : Int) := by rw [← s1]; omega
  rw [zi_w_id (x := x + ((2 ^ r : Nat) : Int)) (by omega) (by omega)]
  show zh_ok (k (zi_or (x + ((2 ^ r : Nat) : Int)) (zi_shr (zi_div (zi_xor x (x + ((2 ^ r : Nat) : Int))) ((2 ^ r : Nat) : Int)) 2))) P
  have e2 : x.toNat ^^^ (x + ((2 ^ r : Nat) : Int)).toNat = x.toNat ^^^ (2 ^ (r + m + 1) * a + 2 ^ (r + m)) := by rw [es, Int.toNat_natCast]
  rw [zi_xor_nat (a := x) (b := x + ((2 ^ r : Nat) : Int)) (by omega) (by omega) (by omega) (by omega), e2]
  have lx : x.toNat ^^^ (2 ^ (r + m + 1) * a + 2 ^ (r + m)) < 2 ^ 25 := Nat.xor_lt_two_pow (by omega) (by omega)
  generalize hy : x.toNat ^^^ (2 ^ (r + m + 1) * a + 2 ^ (r + m)) = y at s2 lx
  rw [zi_div_eq (by omega) (by omega) (by omega) (by omega), ← Int.natCast_ediv]
  have d2 : y / 2 ^ r ≤ y := Nat.div_le_self _ _
  rw [zi_shr_eq (by omega) (by omega) (by decide) (by decide), show (((2 ^ (2 : Int).toNat : Nat)) : Int) = ((4 : Nat) : Int) from rfl, ← Int.natCast_ediv, s2]
  have hp1 := Nat.two_pow_pos (m - 1)
  have le1 : 2 ^ (m - 1) ≤ 2 ^ (r + m) := Nat.pow_le_pow_right (by decide) (by omega)
  have le2 : 2 ^ (r + m) ≤ 2 ^ (r + m + 1) * a + 2 ^ (r + m) := Nat.le_add_left _ _
  rw [zi_or_nat (by omega) (by omega) (by omega) (by omega), es, Int.toNat_natCast, Int.toNat_natCast]
  have eor : (2 ^ (r + m + 1) * a + 2 ^ (r + m)) ||| (2 ^ (m - 1) - 1) = 2 ^ (r + m + 1) * a + (2 ^ (r + m) * 1 + (2 ^ (m - 1) - 1)) := by
    have e3 : 2 ^ (r + m + 1) * a + 2 ^ (r + m) = 2 ^ (r + m) * (2 * a + 1) := by
      rw [Nat.pow_succ, Nat.mul_add, Nat.mul_one, Nat.mul_assoc]
    rw [e3, ← Nat.two_pow_add_eq_or_of_lt (show 2 ^ (m - 1) - 1 < 2 ^ (r + m) by omega), ← e3]
    omega
  rw [eor]
  have hnb : 2 ^ (r + m) * 1 + (2 ^ (m - 1) - 1) < 2 ^ (r + m + 1) := by
    rw [Nat.pow_succ]; omega
  have cx : yz x.toNat ((r + m + 1) + 30) = (m : Int) + yz a 30 := by
    rw [hx, yz_add hblk, show r + m + 1 = r + (m + 1) by omega, yz_block]
  have c24 : ∀ t : Nat, t < 16777216 → yz t ((r + m + 1) + 30) = yz t 24 := fun t ht => by
    rw [show (r + m + 1) + 30 = 24 + (r + m + 7) by omega]
    exact yz_cut ht
  refine h _ ?_ ?_ (fun t t1 t2 t3 => ?_) fun hv => ?_
  · omega
  · have : 2 ^ (r + m + 1) * a + 2 ^ (r + m) < 33554432 := by omega
    omega
  · rw [yn_zb (by omega) t3, yn_zb (by omega) h2, ← c24 t.toNat (by omega), ← c24 x.toNat (by omega), cx]
    obtain ⟨u, hu⟩ : ∃ u, t.toNat = 2 ^ (r + m + 1) * a + u := ⟨t.toNat - 2 ^ (r + m + 1) * a, by omega⟩
    rw [hu, yz_add (by omega)]
    have := yz_bet (k := r) (m := m) (u := u) hm (by omega) (by omega)
    omega
  · rw [yn_zb (by omega) hv, yn_zb (by omega) h2, ← c24 x.toNat (by omega), cx, Int.toNat_natCast, ← c24 _ (by omega), yz_add hnb, yz_nblock hm]
end
section
/-! hidden: the class goes down by the columns of a way, the reference through all sets: the same least set. -/
def ym_ni (z h : Int) (co : Int → Int) (c s : Int) : Prop := z24 s ∧ ∀ j : Nat, zb s j = (decide (j < 24) && (zb z j && !zb c (yv_st h co j).toNat))
theorem ym_ni_u {z h : Int} {co : Int → Int} {c s v : Int} (h1 : ym_ni z h co c s) (h2 : ym_ni z h co c v) : s = v := z24_ext h1.1 h2.1 fun j _ => by rw [h1.2, h2.2]
/-- by these clouds it can't be told -/
def ym_P (z h : Int) (co nr J : Int → Int) (ni c : Int) : Prop := ∀ s, ym_ni z h co c s → ym_A s nr J ni = 0
/-- a set within another is no greater -/
theorem z24_le {a b : Int} (ha : z24 a) (hb : z24 b) (h : ∀ j, zb a j = true → zb b j = true) : a ≤ b := by
  have e : b = zi_or a b := z24_ext hb (z24_or ha hb) fun j _ => by
    rw [zb_or]
    cases e : zb a j
    · rfl
    · rw [h j e]; rfl
  rw [zi_or_nat ha.1 (by have := ha.2; omega) hb.1 (by have := hb.2; omega)] at e
  have l : a.toNat ≤ a.toNat ||| b.toNat := Nat.left_le_or
  have h1 := ha.1
  have h2 := hb.1
  omega
theorem z24_same {a b : Int} (ha : z24 a) (hb : z24 b) (h : ∀ j, zb a j = true → zb b j = true) (hn : yn_n (zb b) 24 ≤ yn_n (zb a) 24) : b = a := by
  refine z24_ext hb ha fun j hj => ?_
  cases eb : zb b j
  · cases ea : zb a j
    · rfl
    · rw [h j ea] at eb; cases eb
  · cases ea : zb a j
    · have := yn_lt (f := zb a) (g := zb b) (k := j) (by rw [ea]; decide) eb 24 hj fun i _ hi => h i hi
      generalize yn_n (zb a) 24 = p at hn this
      generalize yn_n (zb b) 24 = q at hn this
      omega
    · rfl
theorem yn_clr {x : Int} {q : Nat} (hq : q < 24) (hx : zb x q = true) : yn_n (zb x) 24 = yn_n (zb (zi_and x (zi_xor (zi_shl 1 (q : Int)) (-1)))) 24 + 1 := by
  refine yn_add (k := q) ?_ hx 24 hq fun j hj hjq => ?_
  · rw [zb_clr (by omega) (by omega) hq, decide_eq_true (by omega), Bool.not_true, Bool.and_false]
  · rw [zb_clr (by omega) (by omega) hj, decide_eq_false (by omega), Bool.not_false, Bool.and_true]
section YTH
variable {z h : Int} {co nr J : Int → Int} {ni : Int}
theorem ym_notIn {c : Int} (hz : z24 z) (hc : ∀ i : Int, 0 ≤ i → i < 24 → 0 ≤ co i ∧ co i ≤ 23) (h0 : 0 ≤ h) (h1 : h ≤ 23) : zh_ok (zf_Matcher_notIn c z h co) (ym_ni z h co c) := by
  refine zh_bind (Q := ym_ni z h co c) (zh_loop (F := fun n i (a : Int) => zf_Matcher_notIn_l0 c z h co n a i) (N := 24) (I := fun i a => z24 a ∧ ∀ j : Nat, zb a j = (decide (j < i.toNat) && (zb z j && !zb c (yv_st h co j).toNat))) (fun n i a i0 i1 hI k => ?_) 24 0 0 zi_fu (by decide) (by decide) (by decide) (by decide) ⟨z24_0, fun j => by rw [zb_0, decide_eq_false (show ¬ j < Int.toNat 0 from Nat.not_lt_zero j), Bool.false_and]⟩) fun o ho => zh_ret ho
  obtain ⟨a1, a2⟩ := hI
  show zh_ok (zf_Matcher_notIn_l0_b c z h co (zf_Matcher_notIn_l0 c z h co n) a i) _
  unfold zf_Matcher_notIn_l0_b
  obtain ⟨m, rfl⟩ : ∃ m : Nat, i = m := ⟨i.toNat, by omega⟩
  have a2 : ∀ j : Nat, zb a j = (decide (j < m) && (zb z j && !zb c (yv_st h co j).toNat)) := a2
  refine zh_ite (fun hi => ?_) fun hi => zh_ret ⟨a1, fun j => by rw [a2, show m = 24 by omega]⟩
  have hm : m < 24 := by omega
  have grow := zb_grow (s := a) (i := (m : Int)) (n := m) (P := fun j : Nat => (zb z j && !zb c (yv_st h co j).toNat)) rfl hm a2
  have e1 : ((m : Int) + 1).toNat = m + 1 := by omega
  have st : yv_st h co m = (co (m : Int) + h) % 24 := rfl
  have stin := yv_st_in (h := h) (co := co) (i := (m : Int))
  rw [zi_w_id (x := (m : Int) + 1) (by omega) (by omega)]
  have kk : ∀ a', z24 a' → (∀ j : Nat, zb a' j = (decide (j < m + 1) && (zb z j && !zb c (yv_st h co j).toNat))) → zh_ok (zf_Matcher_notIn_l0 c z h co n a' ((m : Int) + 1)) _ := fun a' q1 q2 => k a' hi ⟨q1, by rw [e1]; exact q2⟩
  by_cases hb : zb z m = true
  · rw [zb_bit1 (t := z) (i := (m : Int)) i0 (by omega) hb, if_neg (show ¬ (1 : Int) = 0 by decide), ze_Sky_standing i0 (by omega) (hc m i0 hi).1 (hc m i0 hi).2 h0 h1, zl_b, ← st]
    by_cases hcb : zb c (yv_st h co m).toNat = true
    · rw [zb_bit1 stin.1 (by omega) hcb, if_neg (show ¬ (1 : Int) = 0 by decide)]
      rw [if_neg (by show ¬ (zb z m && !zb c (yv_st h co m).toNat) = true; rw [hcb, Bool.not_true, Bool.and_false]; decide)] at grow
      exact kk _ a1 grow
    · rw [zb_bit0 stin.1 (by omega) hcb, if_pos rfl]
      rw [if_pos (by show (zb z m && !zb c (yv_st h co m).toNat) = true; rw [hb, Bool.eq_false_iff.mpr hcb]; rfl)] at grow
      exact kk _ (z24_or a1 (z24_shl i0 hi)) grow
  · rw [zb_bit0 (t := z) (i := (m : Int)) i0 (by omega) hb, if_pos rfl]
    rw [if_neg (by show ¬ (zb z m && !zb c (yv_st h co m).toNat) = true; rw [Bool.eq_false_iff.mpr hb, Bool.false_and]; decide)] at grow
    exact kk _ a1 grow
theorem ym_colsOf {S : Int → Int} (hc : ∀ i : Int, 0 ≤ i → i < 24 → 0 ≤ co i ∧ co i ≤ 23) (h0 : 0 ≤ h) (h1 : h ≤ 23) (hS : ∀ b : Nat, b < 8 → zb ni b = true → 0 ≤ S b ∧ S b ≤ 23) : zh_ok (zf_Matcher_columnsOfWay ni h S co) fun s => z24 s ∧ ∀ q, zb s q = true ↔ ∃ b : Nat, b < 8 ∧ zb ni b = true ∧ q = (yv_st h co (S b)).toNat := by
  refine zh_bind (Q := fun s => z24 s ∧ ∀ q, zb s q = true ↔ ∃ b : Nat, b < 8 ∧ zb ni b = true ∧ q = (yv_st h co (S b)).toNat) (zh_loop (F := fun n i (a : Int) => zf_Matcher_columnsOfWay_l0 ni h S co n a i) (N := 8) (I := fun i a => z24 a ∧ ∀ q, zb a q = true ↔ ∃ b : Nat, (b : Int) < i ∧ zb ni b = true ∧ q = (yv_st h co (S b)).toNat) (fun n i a i0 i1 hI k => ?_) 8 0 0 zi_fu (by decide) (by decide) (by decide) (by decide) ⟨z24_0, fun q => by rw [zb_0]; exact ⟨fun h => (by cases h), fun ⟨b, b1, _⟩ => by omega⟩⟩) fun o ho => zh_ret ho
  obtain ⟨a1, a2⟩ := hI
  show zh_ok (zf_Matcher_columnsOfWay_l0_b ni h S co (zf_Matcher_columnsOfWay_l0 ni h S co n) a i) _
  unfold zf_Matcher_columnsOfWay_l0_b
  refine zh_ite (fun hi => ?_) fun hi => zh_ret ⟨a1, fun q => ?_⟩
  · obtain ⟨m, rfl⟩ : ∃ m : Nat, i = m := ⟨i.toNat, by omega⟩
    rw [zi_w_id (x := (m : Int) + 1) (by omega) (by omega)]
    by_cases hb : zb ni m = true
    · obtain ⟨s1, s2⟩ := hS m (by omega) hb
      have stin := yv_st_in (h := h) (co := co) (i := S (m : Int))
      rw [zb_bit1 (t := ni) (i := (m : Int)) i0 (by omega) hb, if_neg (show ¬ (1 : Int) = 0 by decide), zl_ci i0 (by omega), ze_Sky_standing s1 (by omega) (hc _ s1 (by omega)).1 (hc _ s1 (by omega)).2 h0 h1, zl_b, ← show yv_st h co (S (m : Int)) = (co (S (m : Int)) + h) % 24 from rfl]
      refine k _ hi ⟨z24_or a1 (z24_shl stin.1 (by omega)), fun q => ?_⟩
      rw [zb_or, Bool.or_eq_true, a2, zb_shl stin.1 (by omega), decide_eq_true_iff]
      constructor
      · rintro (⟨b, b1, b2⟩ | e)
        · exact ⟨b, by omega, b2⟩
        · exact ⟨m, by omega, hb, e⟩
      · rintro ⟨b, b1, b2, b3⟩
        by_cases e : b = m
        · subst e; exact .inr b3
        · exact .inl ⟨b, by omega, b2, b3⟩
    · rw [zb_bit0 (t := ni) (i := (m : Int)) i0 (by omega) hb, if_pos rfl]
      refine k _ hi ⟨a1, fun q => ?_⟩
      rw [a2]
      constructor
      · rintro ⟨b, b1, b2⟩; exact ⟨b, by omega, b2⟩
      · rintro ⟨b, b1, b2, b3⟩
        refine ⟨b, ?_, b2, b3⟩
        by_cases e : b = m
        · subst e; exact absurd b2 hb
        · omega
  · rw [a2]
    constructor
    · rintro ⟨b, b1, b2⟩; exact ⟨b, by omega, b2⟩
    · rintro ⟨b, b1, b2⟩; exact ⟨b, by omega, b2⟩
def ym_TT (z h : Int) (co nr J : Int → Int) (ni C : Int) (l c : Int) : Prop := z24 c ∧ (∀ j, zb C j = true → zb c j = true) ∧ yn_n (zb c) 24 ≤ yn_n (zb C) 24 + l ∧ ym_P z h co nr J ni c
def ym_HR (z h : Int) (co nr J : Int → Int) (ni C l f f' : Int) : Prop := (f' = f ∨ ym_TT z h co nr J ni C l f') ∧ (∀ c, ym_TT z h co nr J ni C l c → f' ≠ -1 ∧ f' ≤ c) ∧ (f ≠ -1 → f' ≠ -1 ∧ f' ≤ f)
/-- a way is left where none of its columns is clouded -/
theorem ym_hits (H : ym_H nr J) {C s c : Int} {W : Nat → Nat} (hs : ym_ni z h co C s) (hW : ym_Y s nr J ni W) (hCc : ∀ j, zb C j = true → zb c j = true) (hP : ym_P z h co nr J ni c) (hex : ∃ v, ym_ni z h co c v) : ∃ b : Nat, b < 8 ∧ zb ni b = true ∧ zb c (yv_st h co (W b)).toNat = true := by
  by_cases q : ∃ b : Nat, b < 8 ∧ zb ni b = true ∧ zb c (yv_st h co (W b)).toNat = true
  · exact q
  · exfalso
    obtain ⟨v, hv⟩ := hex
    have h0 := hP v hv
    have inv : ∀ b, b ∈ yc_ls (zb ni) 8 → zb v (W b) = true := fun b hb => by
      obtain ⟨b1, b2⟩ := yc_ls_mem.mp hb
      obtain ⟨w1, w2⟩ := hW.1 b hb
      have w2 : zb s (W b) = true := w2
      rw [hs.2, Bool.and_eq_true, Bool.and_eq_true] at w2
      rw [hv.2, decide_eq_true w1, w2.2.1, Bool.eq_false_iff.mpr fun w => q ⟨b, b1, b2, w⟩]; rfl
    have hw : ym_Y v nr J ni W := ⟨fun b hb => ⟨(hW.1 b hb).1, inv b hb⟩, fun a ha b hb hab => ⟨(hW.2 a ha b hb hab).1, fun w => by
      obtain ⟨j1, j2, -, -, j5⟩ := yc_J_t.mp ((hW.2 a ha b hb hab).2 w)
      exact yc_J_t.mpr ⟨j1, j2, inv a ha, inv b hb, j5⟩⟩⟩
    have := yc_pos1 (yc_N_s H) (yc_J_s H) yc_ls_nd hw
    unfold ym_A at h0
    rw [h0] at this
    exact absurd this (Nat.lt_irrefl 0)
theorem ym_hide (H : ym_H nr J) (HN : ∀ a : Nat, a < 8 → ∀ b, zb (nr a) b = true → b < 8 ∧ zb ni b = true) (hz : z24 z) (hni : z24 ni) (hn8 : ∀ b, zb ni b = true → b < 8) (hc : ∀ i : Int, 0 ≤ i → i < 24 → 0 ≤ co i ∧ co i ≤ 23) (h0 : 0 ≤ h) (h1 : h ≤ 23) : ∀ (n w : Nat) (x3 x4 f0 f6 : Int) (g2 g4 g5 : Int → Int), z24 x3 → 0 ≤ x4 → x4 ≤ 4 → x4 + 1 < n → -1 ≤ f0 → zh_ok (zg_Matcher_hide n w x3 x4 f0 z h f6 ni co J g2 nr g4 g5) fun o => ym_HR z h co nr J ni x3 x4 f0 o.1 ∧ -1 ≤ o.1 := by
  intro n
  induction n with
  | zero => intro w x3 x4 f0 f6 g2 g4 g5 c0 c1 c2 c3; omega
  | succ n ih =>
    intro w x3 x4 f0 f6 g2 g4 g5 c0 c1 c2 c3 c4
    show zh_ok (zm_Matcher_hide (zg_Matcher_hide n) x3 x4 f0 z h f6 ni co J g2 nr g4 g5) _
    have main : (f0 = -1 ∨ x3 < f0) → zh_ok ((zf_Matcher_notIn x3 z h co).bind fun r2 => ((zf_Matcher_countWays_24 r2 1 f6 ni J g2 nr g4 g5).bind fun r3 => (if r3.1 = 0 then (some (x3, r3.2.1, r3.2.2.1, r3.2.2.2.1, r3.2.2.2.2)) else (if 0 < x4 then ((zf_Matcher_columnsOfWay ni h r3.2.2.2.2 co).bind fun r6 => ((zm_Matcher_hide_l0 (zg_Matcher_hide n) x3 x4 r6 z h ni co J nr zi_fu 0 f0 r3.2.1 r3.2.2.1 r3.2.2.2.1 r3.2.2.2.2).bind fun q10 => (some (q10.1, q10.2.1, q10.2.2.1, q10.2.2.2.1, q10.2.2.2.2)))) else (some (f0, r3.2.1, r3.2.2.1, r3.2.2.2.1, r3.2.2.2.2)))))) fun o => ym_HR z h co nr J ni x3 x4 f0 o.1 ∧ -1 ≤ o.1 := fun hf0 => by
      refine zh_bind (ym_notIn hz hc h0 h1) fun s hs => ?_
      refine zh_bind (ym_count H HN hs.1 hni hn8 (most := 1) (f2 := f6) (g1 := g2) (g3 := g4) (g4 := g5) (by decide) (by decide)) fun r3 hr => ?_
      obtain ⟨q1, q2⟩ := hr
      refine zh_ite (fun e0 => zh_ret ⟨⟨.inr ⟨c0, fun _ w => w, by show yn_n (zb x3) 24 ≤ yn_n (zb x3) 24 + x4; omega, fun v hv => ?_⟩, fun c hcT => ⟨by show x3 ≠ -1; have := c0.1; omega, z24_le c0 hcT.1 hcT.2.1⟩, fun _ => ?_⟩, by show -1 ≤ x3; have := c0.1; omega⟩) fun e0 => ?_
      · rw [ym_ni_u hv hs]
        rw [q1] at e0
        split at e0 <;> omega
      · have := c0.1
        show x3 ≠ -1 ∧ x3 ≤ f0
        rcases hf0 with e | e
        · contradiction
        · omega
      have hr1 : 0 < r3.1 := by
        rw [q1] at e0 ⊢
        split at e0 <;> split <;> omega
      obtain ⟨hW, hpos⟩ := q2 rfl hr1
      have nP : ¬ ym_P z h co nr J ni x3 := fun hP => by
        have := hP s hs
        rw [q1, this] at hr1
        exact absurd hr1 (by decide)
      have hS : ∀ b : Nat, b < 8 → zb ni b = true → 0 ≤ r3.2.2.2.2 b ∧ r3.2.2.2.2 b ≤ 23 := fun b b1 b2 => by
        have p := hpos b b1 b2
        have q : (r3.2.2.2.2 b).toNat < 24 := (hW.1 b (yc_ls_mem.mpr ⟨b1, b2⟩)).1
        omega
      refine zh_ite (fun hx4 => ?_) fun hx4 => zh_ret ⟨⟨.inl rfl, fun c hcT => ?_, fun w => ⟨w, Int.le_refl _⟩⟩, c4⟩
      · refine zh_bind (ym_colsOf hc h0 h1 hS) fun x6 h6 => ?_
        obtain ⟨z6, h6⟩ := h6
        refine zh_bind (Q := fun q => ym_HR z h co nr J ni x3 x4 f0 q.1 ∧ -1 ≤ q.1) (zh_loop (F := fun n2 i (a : Int × Int × (Int → Int) × (Int → Int) × (Int → Int)) => zm_Matcher_hide_l0 (zg_Matcher_hide n) x3 x4 x6 z h ni co J nr n2 i a.1 a.2.1 a.2.2.1 a.2.2.2.1 a.2.2.2.2) (N := 24)
          (I := fun i a => -1 ≤ a.1 ∧ (a.1 = f0 ∨ ym_TT z h co nr J ni x3 x4 a.1) ∧ (∀ c, ym_TT z h co nr J ni x3 x4 c → (∃ q : Nat, (q : Int) < i ∧ zb x6 q = true ∧ zb c q = true) → a.1 ≠ -1 ∧ a.1 ≤ c) ∧ (f0 ≠ -1 → a.1 ≠ -1 ∧ a.1 ≤ f0)) (fun n2 i a i0 i1 hI k => ?_) 24 0 (f0, r3.2.1, r3.2.2.1, r3.2.2.2.1, r3.2.2.2.2) zi_fu (by decide) (by decide) (by decide) (by decide) ⟨c4, .inl rfl, fun c _ ⟨q, hq, _⟩ => by omega, fun w => ⟨w, Int.le_refl _⟩⟩) fun q hq => zh_ret hq
        obtain ⟨a1, a2, a3, a4, a5⟩ := a
        obtain ⟨I0, I1, I2, I3⟩ := hI
        have I0 : -1 ≤ a1 := I0
        show zh_ok (zm_Matcher_hide_l0_b (zg_Matcher_hide n) x3 x4 x6 z h ni co J nr (zm_Matcher_hide_l0 (zg_Matcher_hide n) x3 x4 x6 z h ni co J nr n2) i a1 a2 a3 a4 a5) _
        unfold zm_Matcher_hide_l0_b
        refine zh_ite (fun hi => ?_) fun hi => zh_ret ⟨⟨I1, fun c hcT => I2 c hcT ?_, I3⟩, I0⟩
        · obtain ⟨m, rfl⟩ : ∃ m : Nat, i = m := ⟨i.toNat, by omega⟩
          have hm : m < 24 := by omega
          rw [zi_w_id (x := (m : Int) + 1) (by omega) (by omega), zi_w_id (x := x4 - 1) (by omega) (by omega)]
          by_cases hb : zb x6 m = true
          · rw [zb_bit1 (t := x6) (i := (m : Int)) i0 (by omega) hb, if_neg (show ¬ (1 : Int) = 0 by decide)]
            obtain ⟨b, b1, b2, b3⟩ := (h6 m).mp hb
            have nx : ¬ zb x3 m = true := fun w => by
              have hv := (hW.1 b (yc_ls_mem.mpr ⟨b1, b2⟩)).2
              have hv : zb s (r3.2.2.2.2 b).toNat = true := hv
              rw [hs.2, Bool.and_eq_true, Bool.and_eq_true, Bool.not_eq_true', Int.toNat_of_nonneg (hS b b1 b2).1, ← b3] at hv
              rw [w] at hv
              exact absurd hv.2.2 (by decide)
            have zC : z24 (zi_or x3 (zi_shl 1 (m : Int))) := z24_or c0 (z24_shl i0 hi)
            have bC : ∀ j, zb (zi_or x3 (zi_shl 1 (m : Int))) j = true ↔ zb x3 j = true ∨ j = m := fun j => by
              rw [zb_or, Bool.or_eq_true, zb_shl i0 (by omega), decide_eq_true_iff, Int.toNat_natCast]
            have cnt : yn_n (zb (zi_or x3 (zi_shl 1 (m : Int)))) 24 = yn_n (zb x3) 24 + 1 := yn_add (k := m) (Bool.eq_false_iff.mpr nx) ((bC m).mpr (.inr rfl)) 24 hm fun j _ hj => by
              rw [Bool.eq_iff_iff, bC]
              exact ⟨fun w => .inl w, fun w => w.elim id fun w => absurd w hj⟩
            have down : ∀ c, ym_TT z h co nr J ni (zi_or x3 (zi_shl 1 (m : Int))) (x4 - 1) c → ym_TT z h co nr J ni x3 x4 c := fun c ⟨t1, t2, t3, t4⟩ => by
              refine ⟨t1, fun j hj => t2 j ((bC j).mpr (.inl hj)), ?_, t4⟩
              rw [cnt] at t3
              generalize yn_n (zb c) 24 = p1 at t3 ⊢
              generalize yn_n (zb x3) 24 = p2 at t3 ⊢
              omega
            have up : ∀ c, ym_TT z h co nr J ni x3 x4 c → zb c m = true → ym_TT z h co nr J ni (zi_or x3 (zi_shl 1 (m : Int))) (x4 - 1) c := fun c ⟨t1, t2, t3, t4⟩ hcm => by
              refine ⟨t1, fun j hj => ((bC j).mp hj).elim (t2 j) fun e => by rw [e]; exact hcm, ?_, t4⟩
              rw [cnt]
              generalize yn_n (zb c) 24 = p1 at t3 ⊢
              generalize yn_n (zb x3) 24 = p2 at t3 ⊢
              omega
            refine zh_bind (ih 0 (zi_or x3 (zi_shl 1 (m : Int))) (x4 - 1) a1 a2 a3 a4 a5 zC (by omega) (by omega) (by omega) I0) fun r9 h9 => ?_
            obtain ⟨⟨r1, r2, r3'⟩, r4⟩ := h9
            refine k (r9.1, _, _, _, _) hi ⟨r4, ?_, fun c hcT ⟨q, q1, q2, q3⟩ => ?_, fun w => ?_⟩
            · rcases r1 with e | t
              · show r9.1 = f0 ∨ _
                rw [e]; exact I1
              · exact .inr (down _ t)
            · show r9.1 ≠ -1 ∧ r9.1 ≤ c
              by_cases e : q = m
              · subst e
                exact r2 c (up c hcT q3)
              · obtain ⟨y1, y2⟩ := I2 c hcT ⟨q, by omega, q2, q3⟩
                have y1 : a1 ≠ -1 := y1
                have y2 : a1 ≤ c := y2
                obtain ⟨y3, y4⟩ := r3' y1
                exact ⟨y3, by omega⟩
            · obtain ⟨y1, y2⟩ := I3 w
              have y1 : a1 ≠ -1 := y1
              have y2 : a1 ≤ f0 := y2
              obtain ⟨y3, y4⟩ := r3' y1
              exact ⟨y3, by show r9.1 ≤ f0; omega⟩
          · rw [zb_bit0 (t := x6) (i := (m : Int)) i0 (by omega) hb, if_pos rfl]
            refine k (a1, a2, a3, a4, a5) hi ⟨I0, I1, fun c hcT ⟨q, q1, q2, q3⟩ => I2 c hcT ⟨q, ?_, q2, q3⟩, I3⟩
            by_cases e : q = m
            · subst e; exact absurd q2 hb
            · omega
        · obtain ⟨v, ev, hv⟩ := ym_notIn (c := c) hz hc h0 h1
          obtain ⟨b, b1, b2, b3⟩ := ym_hits H hs hW hcT.2.1 hcT.2.2.2 ⟨v, hv⟩
          have stin := yv_st_in (h := h) (co := co) (i := r3.2.2.2.2 b)
          have b3 : zb c (yv_st h co (((r3.2.2.2.2 b).toNat : Nat) : Int)).toNat = true := b3
          rw [Int.toNat_of_nonneg (hS b b1 b2).1] at b3
          exact ⟨(yv_st h co (r3.2.2.2.2 b)).toNat, by omega, (h6 _).mpr ⟨b, b1, b2, rfl⟩, b3⟩
      · obtain ⟨t1, t2, t3, t4⟩ := hcT
        have : c = x3 := z24_same c0 t1 t2 (by
          generalize yn_n (zb c) 24 = p1 at t3 ⊢
          generalize yn_n (zb x3) 24 = p2 at t3 ⊢
          omega)
        rw [this] at t4
        exact absurd t4 nP
    unfold zm_Matcher_hide
    refine zh_ite (fun e => main (.inl e)) fun e => zh_ite (fun e2 => main (.inr e2)) fun e2 => zh_ret ⟨⟨.inl rfl, fun c hcT => ⟨e, ?_⟩, fun w => ⟨w, Int.le_refl _⟩⟩, c4⟩
    have := z24_le c0 hcT.1 hcT.2.1
    show f0 ≤ c
    omega
/-- the fewest columns, of like ones the least bits -/
def ym_Fin (z h : Int) (co nr J : Int → Int) (ni f : Int) : Prop := z24 f ∧ yn_n (zb f) 24 ≤ 4 ∧ ym_P z h co nr J ni f ∧ ∀ c, z24 c → ym_P z h co nr J ni c → yn_n (zb f) 24 ≤ yn_n (zb c) 24 ∧ (yn_n (zb c) 24 = yn_n (zb f) 24 → f ≤ c)
theorem ym_fewest (H : ym_H nr J) (HN : ∀ a : Nat, a < 8 → ∀ b, zb (nr a) b = true → b < 8 ∧ zb ni b = true) (hz : z24 z) (hni : z24 ni) (hn8 : ∀ b, zb ni b = true → b < 8) (hc : ∀ i : Int, 0 ≤ i → i < 24 → 0 ≤ co i ∧ co i ≤ 23) (h0 : 0 ≤ h) (h1 : h ≤ 23) (hn : ¬ ym_P z h co nr J ni 0) {f0 f6 : Int} {g2 g4 g5 : Int → Int} :
    zh_ok (zf_Matcher_fewestColumns f0 z h f6 ni co J g2 nr g4 g5) fun o => (o.1 = -1 ∧ ∀ c, z24 c → ym_P z h co nr J ni c → 4 < yn_n (zb c) 24) ∨ (o.1 ≠ -1 ∧ ym_Fin z h co nr J ni o.1) := by
  unfold zf_Matcher_fewestColumns
  refine zh_bind (Q := fun q => (q.1 = -1 ∧ ∀ c, z24 c → ym_P z h co nr J ni c → 4 < yn_n (zb c) 24) ∨ (q.1 ≠ -1 ∧ ym_Fin z h co nr J ni q.1)) (zh_loop (F := fun n2 i (a : Int × Int × (Int → Int) × (Int → Int) × (Int → Int)) => zf_Matcher_fewestColumns_l0 z h ni co J nr n2 i a.1 a.2.1 a.2.2.1 a.2.2.2.1 a.2.2.2.2) (N := 5)
    (I := fun i a => (1 ≤ i ∧ a.1 = -1 ∧ ∀ c, z24 c → ym_P z h co nr J ni c → i ≤ yn_n (zb c) 24) ∨ (a.1 ≠ -1 ∧ ym_Fin z h co nr J ni a.1)) (fun n2 i a i0 i1 hI k => ?_) 5 1 (-1, f6, g2, g4, g5) zi_fu (by decide) (by decide) (by decide) (by decide) (.inl ⟨by decide, rfl, fun c z1 hP => ?_⟩)) fun q hq => zh_ret hq
  · obtain ⟨a1, a2, a3, a4, a5⟩ := a
    show zh_ok (zf_Matcher_fewestColumns_l0_b z h ni co J nr (zf_Matcher_fewestColumns_l0 z h ni co J nr n2) i a1 a2 a3 a4 a5) _
    unfold zf_Matcher_fewestColumns_l0_b
    refine zh_ite (fun hi => zh_ret ?_) fun hi => ?_
    · rcases hI with ⟨p0, p1, p2⟩ | p
      · refine .inl ⟨p1, fun c c1 c2 => ?_⟩
        have := p2 c c1 c2
        omega
      · exact .inr p
    · refine zh_ite (fun e => ?_) fun e => zh_ret (.inr (hI.elim (fun p => absurd p.2.1 e) id))
      obtain ⟨p0, p1, p2⟩ := hI.elim id fun p => absurd e p.1
      rw [zi_w_id (x := i + 1) (by omega) (by omega)]
      refine zh_bind (ym_hide H HN hz hni hn8 hc h0 h1 6 0 0 i a1 a2 a3 a4 a5 z24_0 (by omega) (by omega) (by omega) (by rw [e]; decide)) fun r3 h3 => k (_, _, _, _, _) (by omega) ?_
      obtain ⟨⟨r1, r2, -⟩, -⟩ := h3
      have n0 : yn_n (zb 0) 24 = 0 := by decide +kernel
      have tt : ∀ c, z24 c → ym_P z h co nr J ni c → yn_n (zb c) 24 ≤ i → ym_TT z h co nr J ni 0 i c := fun c c1 c2 c3 => ⟨c1, fun j hj => (by rw [zb_0] at hj; cases hj), by rw [n0]; omega, c2⟩
      by_cases e2 : r3.1 = -1
      · refine .inl ⟨by omega, e2, fun c c1 c2 => ?_⟩
        have := p2 c c1 c2
        by_cases lt : i + 1 ≤ yn_n (zb c) 24
        · exact lt
        · exact absurd e2 (r2 c (tt c c1 c2 (by omega))).1
      · refine .inr ⟨e2, ?_⟩
        rcases r1 with r1 | ⟨t1, t2, t3, t4⟩
        · rw [e] at r1; exact absurd r1 e2
        · rw [n0] at t3
          have l := p2 _ t1 t4
          have en : yn_n (zb r3.1) 24 = i := by omega
          show ym_Fin z h co nr J ni r3.1
          refine ⟨t1, by omega, t4, fun c c1 c2 => ⟨by rw [en]; exact p2 c c1 c2, fun c3 => ?_⟩⟩
          rw [en] at c3
          exact (r2 c (tt c c1 c2 (by omega))).2
  · by_cases lt : 1 ≤ yn_n (zb c) 24
    · exact lt
    · have e : c = 0 := (z24_z z1).mpr fun j hj => Bool.eq_false_iff.mpr fun w => by
        have := yn_lt (f := fun _ => false) (g := zb c) (k := j) (by decide) w 24 hj fun i _ hi => (by cases hi)
        have := (yn_in (f := fun _ => false) 24).1
        generalize yn_n (fun _ => false) 24 = q at *
        omega
      rw [e] at hP
      exact absurd hP hn
end YTH
end
