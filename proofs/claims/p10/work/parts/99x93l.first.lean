/-! The matcher counts all ways, and finds the first. -/
def ym_Lg (z : Int) (nr J g : Int → Int) (b : Nat) : Prop := z24 (g b) ∧ ∀ q : Nat, zb (g b) q = (decide (q < 24) && (zb z q && decide (zs_sum (nr b) 24 ≤ zs_sum (zi_and (J q) z) 24)))
theorem zh_and {α : Type} {x : Option α} {P Q : α → Prop} (h1 : zh_ok x P) (h2 : zh_ok x Q) : zh_ok x fun o => P o ∧ Q o := by
  obtain ⟨o, e1, p⟩ := h1
  obtain ⟨o2, e2, q⟩ := h2
  rw [e1] at e2
  cases e2
  exact ⟨o, e1, p, q⟩
section YCF
variable {z ni : Int} {nr J : Int → Int}
theorem ym_lg (H : ym_H nr J) (HN : ∀ a : Nat, a < 8 → ∀ b, zb (nr a) b = true → b < 8 ∧ zb ni b = true) (hz : z24 z) {V : Nat → Nat} (hV : ym_Y z nr J ni V) {b : Nat} (hb : b < 8) (hx : zb ni b = true) : zs_sum (nr b) 24 ≤ zs_sum (zi_and (J (V b)) z) 24 := by
  have hm : b ∈ yc_ls (zb ni) 8 := yc_ls_mem.mpr ⟨hb, hx⟩
  have hv := (hV.1 b hm).1
  have z1 := (H.1 b hb).1
  have z2 := z24_and (b := z) (H.2.2.1 (V b) hv).1
  rw [yn_sum z1.1 (by have := z1.2; omega) 24, yn_sum z2.1 (by have := z2.2; omega) 24]
  have l := yc_legs (z := zb z) (fun _ _ j h => h) hV hm (f := zb (nr b)) (n := 24) fun c c1 c2 => by
    obtain ⟨d1, d2⟩ := HN b hb c c2
    exact ⟨yc_ls_mem.mpr ⟨d1, d2⟩, fun e => by subst e; rw [(H.1 c hb).2.2] at c2; cases c2, yc_N_t.mpr ⟨hb, d1, c2⟩⟩
  have l2 := yn_le (f := fun j => yc_J z J (V b) j && zb z j) (g := zb (zi_and (J (V b)) z)) 24 fun j hj h => by
    rw [Bool.and_eq_true] at h
    rw [zb_and, (yc_J_t.mp h.1).2.2.2.2, h.2]; rfl
  omega
theorem ym_lg_tw (H : ym_H nr J) {p q : Nat} (hp : p < 24) (hq : q < 24) (ht : ym_tw z J p q) : zs_sum (zi_and (J p) z) 24 = zs_sum (zi_and (J q) z) 24 := by
  have z1 := z24_and (b := z) (H.2.2.1 p hp).1
  have z2 := z24_and (b := z) (H.2.2.1 q hq).1
  rw [yn_sum z1.1 (by have := z1.2; omega) 24, yn_sum z2.1 (by have := z2.2; omega) 24]
  by_cases e : p = q
  · rw [e]
  have other : ∀ x : Nat, x < 24 → x ≠ p → x ≠ q → zb (zi_and (J p) z) x = zb (zi_and (J q) z) x := fun x hx xp xq => by
    rw [zb_and, zb_and]
    by_cases zx : zb z x = true
    · rw [ht.2.2 x hx zx xp xq]
    · rw [Bool.eq_false_iff.mpr zx, Bool.and_false, Bool.and_false]
  have fpp : zb (zi_and (J p) z) p = false := by rw [zb_and, (H.2.2.1 p hp).2, Bool.false_and]
  have gqq : zb (zi_and (J q) z) q = false := by rw [zb_and, (H.2.2.1 q hq).2, Bool.false_and]
  by_cases c : zb (J p) q = true
  · have fpq : zb (zi_and (J p) z) q = true := by rw [zb_and, c, ht.2.1]; rfl
    have gqp : zb (zi_and (J q) z) p = true := by rw [zb_and, H.2.2.2 q p hq hp, c, ht.1]; rfl
    have a := yn_add (f := fun x => zb (zi_and (J p) z) x && !decide (x = q)) (g := zb (zi_and (J p) z)) (k := q) (by rw [decide_eq_true rfl, Bool.not_true, Bool.and_false]) fpq 24 hq fun j _ hj => by rw [decide_eq_false hj, Bool.not_false, Bool.and_true]
    have b := yn_add (f := fun x => zb (zi_and (J p) z) x && !decide (x = q)) (g := zb (zi_and (J q) z)) (k := p) (by rw [fpp, Bool.false_and]) gqp 24 hp fun j hj hjp => by
      by_cases ejq : j = q
      · subst ejq; rw [decide_eq_true rfl, Bool.not_true, Bool.and_false, gqq]
      · rw [decide_eq_false ejq, Bool.not_false, Bool.and_true]; exact other j hj hjp ejq
    omega
  · refine yn_eq 24 fun j hj => ?_
    by_cases ejp : j = p
    · subst ejp
      rw [fpp, zb_and, H.2.2.2 q j hq hp, Bool.eq_false_iff.mpr c, Bool.false_and]
    · by_cases ejq : j = q
      · subst ejq
        rw [gqq, zb_and, Bool.eq_false_iff.mpr c, Bool.false_and]
      · exact other j hj ejp ejq
theorem ym_I_first (H : ym_H nr J) {g : Int → Int} {i : Nat} {sx : Nat → Nat} (hl : ∀ b : Nat, b < 8 → zb ni b = true → i ≤ b → ym_Lg z nr J g b) (hs : ∀ b : Nat, b < 8 → zb ni b = true → b < i → g b = zi_shl 1 (sx b : Int) ∧ sx b < 24 ∧ zb z (sx b) = true) : ym_I z J (fun b => b < i ∧ zb ni b = true) sx (fun _ => False) (8 * 0) ni g := by
  have e : ∀ b : Nat, g (8 * 0 + (b : Int)) = g b := fun b => by rw [show (8 * 0 + (b : Int)) = (b : Int) by omega]
  have sb : ∀ b : Nat, b < 8 → zb ni b = true → b < i → ∀ j, zb (g b) j = true → j = sx b := fun b b1 b2 b3 j hj => by
    obtain ⟨s1, s2, s3⟩ := hs b b1 b2 b3
    rw [s1, zb_shl (by omega) (by omega), decide_eq_true_iff, Int.toNat_natCast] at hj
    exact hj
  refine ⟨fun b hb hx => ?_, fun b hb hx hf j hj => ?_, fun b hb hf => .inl hf.2, fun b hb hx hf p q hp hq ht _ _ _ hbp => ?_⟩
  · rw [e b]
    by_cases c : b < i
    · obtain ⟨s1, s2, s3⟩ := hs b hb hx c
      refine ⟨by rw [s1]; exact z24_shl (by omega) (by omega), fun j hj => ⟨?_, fun w => w⟩⟩
      rw [sb b hb hx c j hj]; exact s3
    · obtain ⟨l1, l2⟩ := hl b hb hx (by omega)
      refine ⟨l1, fun j hj => ⟨?_, fun w => w⟩⟩
      rw [l2 j, Bool.and_eq_true, Bool.and_eq_true] at hj
      exact hj.2.1
  · rw [e b] at hj
    exact sb b hb hx hf.1 j hj
  · rw [e b] at hbp ⊢
    obtain ⟨l1, l2⟩ := hl b hb hx (by
      by_cases c : b < i
      · exact absurd ⟨c, hx⟩ hf
      · omega)
    rw [l2, Bool.and_eq_true, Bool.and_eq_true] at hbp ⊢
    exact ⟨decide_eq_true hq, ht.2.1, by rw [← ym_lg_tw H hp hq ht]; exact hbp.2.2⟩
/-- ways by such rows: those of all that begin so -/
theorem ym_C_first (H : ym_H nr J) (HN : ∀ a : Nat, a < 8 → ∀ b, zb (nr a) b = true → b < 8 ∧ zb ni b = true) (hz : z24 z) {g : Int → Int} {i : Nat} {sx : Nat → Nat} (hl : ∀ b : Nat, b < 8 → zb ni b = true → i ≤ b → ym_Lg z nr J g b) (hs : ∀ b : Nat, b < 8 → zb ni b = true → b < i → g b = zi_shl 1 (sx b : Int) ∧ sx b < 24 ∧ zb z (sx b) = true) :
    (0 < ym_C z nr J (8 * 0) ni g ↔ ∃ V, ym_Y z nr J ni V ∧ ∀ c : Nat, c < 8 → c < i → zb ni c = true → V c = sx c) ∧ (∀ S : Int → Int, ym_W z nr J (8 * 0) ni g S → ym_Y z nr J ni (fun b => (S b).toNat) ∧ (∀ c : Nat, c < 8 → c < i → zb ni c = true → (S c).toNat = sx c) ∧ ∀ b : Nat, b < 8 → zb ni b = true → 0 ≤ S b) := by
  have e : ∀ b : Nat, g (8 * 0 + (b : Int)) = g b := fun b => by rw [show (8 * 0 + (b : Int)) = (b : Int) by omega]
  have sb : ∀ b : Nat, b < 8 → zb ni b = true → b < i → ∀ j, zb (g b) j = true → j = sx b := fun b b1 b2 b3 j hj => by
    obtain ⟨s1, s2, s3⟩ := hs b b1 b2 b3
    rw [s1, zb_shl (by omega) (by omega), decide_eq_true_iff, Int.toNat_natCast] at hj
    exact hj
  have hI := ym_I_first H hl hs
  have up : ∀ W : Nat → Nat, yc_w (yc_N nr) (yc_J z J) (yc_R g (8 * 0)) (yc_ls (zb ni) 8) W → ym_Y z nr J ni W ∧ ∀ c : Nat, c < 8 → c < i → zb ni c = true → W c = sx c := fun W hW => by
    refine ⟨yc_w_row hW fun b hb => ?_, fun c c1 c2 c3 => ?_⟩
    · obtain ⟨b1, b2⟩ := yc_ls_mem.mp hb
      exact ((hI.1 b b1 b2).2 _ (hW.1 b hb).2).1
    · have hr : zb (g (8 * 0 + (c : Int))) (W c) = true := (hW.1 c (yc_ls_mem.mpr ⟨c1, c3⟩)).2
      rw [e c] at hr
      exact sb c c1 c3 c2 _ hr
  refine ⟨⟨fun h => ?_, fun ⟨V, hV, hV2⟩ => ?_⟩, fun S hS => ⟨(up _ hS.1).1, (up _ hS.1).2, hS.2⟩⟩
  · obtain ⟨W, hW⟩ := yc_pos2 (yc_N_s H) (yc_J_s H) yc_ls_nd h
    exact ⟨W, up W hW⟩
  · refine yc_pos1 (yc_N_s H) (yc_J_s H) (S := V) yc_ls_nd (yc_w_row hV fun b hb => ?_)
    obtain ⟨b1, b2⟩ := yc_ls_mem.mp hb
    show zb (g (8 * 0 + (b : Int))) (V b) = true
    rw [e b]
    by_cases c : b < i
    · obtain ⟨s1, s2, s3⟩ := hs b b1 b2 c
      rw [s1, zb_shl (by omega) (by omega), decide_eq_true_iff, Int.toNat_natCast]
      exact hV2 b b1 c b2
    · rw [(hl b b1 b2 (by omega)).2, decide_eq_true (hV.1 b hb).1, (hV.1 b hb).2, decide_eq_true (ym_lg H HN hz hV b1 b2)]; rfl
theorem ym_count (H : ym_H nr J) (HN : ∀ a : Nat, a < 8 → ∀ b, zb (nr a) b = true → b < 8 ∧ zb ni b = true) (hz : z24 z) (hni : z24 ni) (hn8 : ∀ b, zb ni b = true → b < 8) {most f2 : Int} {g1 g3 g4 : Int → Int} (m1 : 1 ≤ most) (m2 : most ≤ 10000) :
    zh_ok (zf_Matcher_countWays_24 z most f2 ni J g1 nr g3 g4) fun o => o.1 = (if (ym_A z nr J ni : Int) < most then (ym_A z nr J ni : Int) else most) ∧ (most = 1 → 0 < o.1 → ym_Y z nr J ni (fun b => (o.2.2.2.2 b).toNat) ∧ ∀ b : Nat, b < 8 → zb ni b = true → 0 ≤ o.2.2.2.2 b) := by
  unfold zf_Matcher_countWays_24
  refine zh_bind (ym_begin (fun i hi => (H.2.2.1 i hi).1) fun j hj => (H.1 j hj).1) fun r1 h1 => ?_
  obtain ⟨-, hrow, htw⟩ := h1
  have hl : ∀ b : Nat, b < 8 → zb ni b = true → 0 ≤ b → ym_Lg z nr J r1.2.1 b := fun b b1 _ _ => hrow b b1
  have hs : ∀ b : Nat, b < 8 → zb ni b = true → b < 0 → r1.2.1 b = zi_shl 1 (((fun _ => 0 : Nat → Nat) b : Nat) : Int) ∧ (fun _ => 0 : Nat → Nat) b < 24 ∧ zb z ((fun _ => 0 : Nat → Nat) b) = true := fun b _ _ b3 => absurd b3 (Nat.not_lt_zero b)
  have hI := ym_I_first (z := z) H hl hs
  have hA : ym_C z nr J (8 * 0) ni r1.2.1 = ym_A z nr J ni := by
    have e : ∀ b : Nat, r1.2.1 (8 * 0 + (b : Int)) = r1.2.1 b := fun b => by rw [show (8 * 0 + (b : Int)) = (b : Int) by omega]
    refine yc_prune (yc_N_s H) (yc_J_s H) yc_ls_nd (fun b hb j _ hj => ?_) fun V hV b hb => ?_
    · obtain ⟨b1, b2⟩ := yc_ls_mem.mp hb
      exact ((hI.1 b b1 b2).2 j hj).1
    · obtain ⟨b1, b2⟩ := yc_ls_mem.mp hb
      show zb (r1.2.1 (8 * 0 + (b : Int))) (V b) = true
      rw [e b, (hrow b b1).2, decide_eq_true (hV.1 b hb).1, (hV.1 b hb).2, decide_eq_true (ym_lg H HN hz hV b1 b2)]; rfl
  have hc8 : yn_n (zb ni) 8 ≤ 8 := (yn_in 8).2
  refine zh_bind (ym_search H htw 9 0 0 ni most r1.1 r1.2.1 g4 (fun _ => False) (by decide) (by omega) (by decide) m1 m2 hni hn8 hI) fun r2 h2 => zh_ret ?_
  obtain ⟨q1, -, -, q4⟩ := h2
  rw [hA] at q1
  exact ⟨q1, fun e1 e2 => by
    obtain ⟨c1, -, c3⟩ := (ym_C_first H HN hz hl hs).2 _ (q4 e1 e2)
    exact ⟨c1, c3⟩⟩
theorem ym_settle (H : ym_H nr J) (HN : ∀ a : Nat, a < 8 → ∀ b, zb (nr a) b = true → b < 8 ∧ zb ni b = true) (hz : z24 z) (hni : z24 ni) (hn8 : ∀ b, zb ni b = true → b < 8) {T : Int → Int} (hT : ∀ p : Nat, p < 24 → ∀ q, zb (T p) q = true ↔ q < 24 ∧ (q = p ∨ ym_tw z J p q)) {f3 : Int} {g S : Int → Int} {b0 : Nat} (hb0 : b0 < 8) (hx0 : zb ni b0 = true) {sx : Nat → Nat}
    (hl : ∀ b : Nat, b < 8 → zb ni b = true → b0 ≤ b → ym_Lg z nr J g b) (hs : ∀ b : Nat, b < 8 → zb ni b = true → b < b0 → g b = zi_shl 1 (sx b : Int) ∧ sx b < 24 ∧ zb z (sx b) = true) :
    zh_ok (zf_Matcher_settleLowest (b0 : Int) ni f3 g nr T S J) fun o => (o.1 = 1 ∧ ∃ m : Nat, m < 24 ∧ zb z m = true ∧ (∀ b : Nat, b < 8 → b ≠ b0 → o.2.2.1 b = g b) ∧ o.2.2.1 b0 = zi_shl 1 (m : Int) ∧ (∀ V, ym_Y z nr J ni V → (∀ c : Nat, c < b0 → zb ni c = true → V c = sx c) → m ≤ V b0) ∧ ym_Y z nr J ni (fun b => (o.2.2.2 b).toNat) ∧ (∀ c : Nat, c < b0 → zb ni c = true → (o.2.2.2 c).toNat = sx c) ∧ (o.2.2.2 b0).toNat = m ∧ ∀ b : Nat, b < 8 → zb ni b = true → 0 ≤ o.2.2.2 b) ∨
      (o.1 = 0 ∧ ∀ V, ym_Y z nr J ni V → ¬ ∀ c : Nat, c < b0 → zb ni c = true → V c = sx c) := by
  unfold zf_Matcher_settleLowest
  rw [zl_ci (a := (b0 : Int)) (by omega) (by omega)]
  have lg := hl b0 hb0 hx0 (Nat.le_refl _)
  have hm0 : b0 ∈ yc_ls (zb ni) 8 := yc_ls_mem.mpr ⟨hb0, hx0⟩
  refine zh_sum (Q := fun q => match q with
    | .inl a => ∀ V, ym_Y z nr J ni V → ¬ ∀ c : Nat, c < b0 → zb ni c = true → V c = sx c
    | .inr o => o.1 = 1 ∧ ∃ m : Nat, m < 24 ∧ zb z m = true ∧ (∀ b : Nat, b < 8 → b ≠ b0 → o.2.2.1 b = g b) ∧ o.2.2.1 b0 = zi_shl 1 (m : Int) ∧ (∀ V, ym_Y z nr J ni V → (∀ c : Nat, c < b0 → zb ni c = true → V c = sx c) → m ≤ V b0) ∧ ym_Y z nr J ni (fun b => (o.2.2.2 b).toNat) ∧ (∀ c : Nat, c < b0 → zb ni c = true → (o.2.2.2 c).toNat = sx c) ∧ (o.2.2.2 b0).toNat = m ∧ ∀ b : Nat, b < 8 → zb ni b = true → 0 ≤ o.2.2.2 b)
    (zh_loop (F := fun n i (a : Int × (Int → Int) × (Int → Int)) => zf_Matcher_settleLowest_l0 (b0 : Int) (g b0) ni nr T J n i a.1 a.2.1 a.2.2) (N := 24) (I := fun i a => (∀ b : Nat, b < 8 → b ≠ b0 → a.2.1 b = g b) ∧ ∀ V, ym_Y z nr J ni V → (∀ c : Nat, c < b0 → zb ni c = true → V c = sx c) → i ≤ (V b0 : Int)) (fun n i a i0 i1 hI k => ?_) 24 0 (f3, g, S) zi_fu (by decide) (by decide) (by decide) (by decide) ⟨fun _ _ _ => rfl, fun V _ _ => by omega⟩) (fun a ha => zh_ret (.inr ⟨rfl, ha⟩)) fun o ho => zh_ret (.inl ho)
  obtain ⟨f, g0, S0⟩ := a
  obtain ⟨I1, I2⟩ := hI
  have I1 : ∀ b : Nat, b < 8 → b ≠ b0 → g0 b = g b := I1
  show zh_ok (zf_Matcher_settleLowest_l0_b (b0 : Int) (g b0) ni nr T J (zf_Matcher_settleLowest_l0 (b0 : Int) (g b0) ni nr T J n) i f g0 S0) _
  unfold zf_Matcher_settleLowest_l0_b
  refine zh_ite (fun hi => ?_) fun hi => zh_ret fun V hV hp => by
    have := I2 V hV hp
    have := (hV.1 b0 hm0).1
    omega
  obtain ⟨m, rfl⟩ : ∃ m : Nat, i = m := ⟨i.toNat, by omega⟩
  have hm : m < 24 := by omega
  rw [zi_w_id (x := (m : Int) + 1) (by omega) (by omega)]
  have next : (∀ V, ym_Y z nr J ni V → (∀ c : Nat, c < b0 → zb ni c = true → V c = sx c) → V b0 ≠ m) → ∀ V, ym_Y z nr J ni V → (∀ c : Nat, c < b0 → zb ni c = true → V c = sx c) → (m : Int) + 1 ≤ (V b0 : Int) := fun h V hV hp => by
    have := I2 V hV hp
    have := h V hV hp
    omega
  by_cases hb : zb (g b0) m = true
  · rw [zb_bit1 (t := g b0) (i := (m : Int)) i0 (by omega) hb, if_neg (show ¬ (1 : Int) = 0 by decide), zl_ci (a := (b0 : Int)) (by omega) (by omega)]
    have zm : zb z m = true := by
      rw [lg.2, Bool.and_eq_true, Bool.and_eq_true] at hb
      exact hb.2.1
    obtain ⟨sx2, e2⟩ : ∃ sx2 : Nat → Nat, sx2 = fun b => if b = b0 then m else sx b := ⟨_, rfl⟩
    have e20 : sx2 b0 = m := by rw [e2]; exact if_pos rfl
    have e2n : ∀ b, b ≠ b0 → sx2 b = sx b := fun b hne => by rw [e2]; exact if_neg hne
    have hl2 : ∀ b : Nat, b < 8 → zb ni b = true → b0 + 1 ≤ b → ym_Lg z nr J (zv_up g0 (b0 : Int) (zi_shl 1 (m : Int))) b := fun b b1 b2 b3 => by
      unfold ym_Lg
      rw [zv_up_n (by omega), I1 b b1 (by omega)]
      exact hl b b1 b2 (by omega)
    have hs2 : ∀ b : Nat, b < 8 → zb ni b = true → b < b0 + 1 → zv_up g0 (b0 : Int) (zi_shl 1 (m : Int)) b = zi_shl 1 (sx2 b : Int) ∧ sx2 b < 24 ∧ zb z (sx2 b) = true := fun b b1 b2 b3 => by
      by_cases e : b = b0
      · subst e; rw [zv_up_s, e20]; exact ⟨rfl, hm, zm⟩
      · rw [zv_up_n (by omega), I1 b b1 e, e2n b e]
        exact hs b b1 b2 (by omega)
    obtain ⟨C1, C2⟩ := ym_C_first H HN hz hl2 hs2
    have hc8 : yn_n (zb ni) 8 ≤ 8 := (yn_in 8).2
    refine zh_bind (ym_search H hT 9 0 0 ni 1 f (zv_up g0 (b0 : Int) (zi_shl 1 (m : Int))) S0 (fun _ => False) (by decide) (by omega) (by decide) (by decide) (by decide) hni hn8 (ym_I_first H hl2 hs2)) fun r5 h5 => ?_
    obtain ⟨q1, q2, q3, q4⟩ := h5
    refine zh_ite (fun hp => zh_ret ⟨rfl, m, hm, zm, fun b b1 b2 => ?_, ?_, ?_, ?_⟩) fun hn => k (_, _, _) hi ⟨fun b b1 b2 => ?_, next fun V hV hp e => ?_⟩
    · show r5.2.2.1 b = g b
      rw [q2 b (by omega), zv_up_n (by omega)]; exact I1 b b1 b2
    · show r5.2.2.1 b0 = _
      rw [q2 b0 (by omega), zv_up_s]
    · intro V hV hp
      have := I2 V hV hp
      omega
    · obtain ⟨d1, d2, d3⟩ := C2 _ (q4 rfl hp)
      refine ⟨d1, fun c c1 c2 => ?_, ?_, d3⟩
      · rw [← e2n c (by omega)]; exact d2 c (by omega) (by omega) c2
      · rw [← e20]; exact d2 b0 hb0 (by omega) hx0
    · show r5.2.2.1 b = g b
      rw [q2 b (by omega), zv_up_n (by omega)]; exact I1 b b1 b2
    · have hC : 0 < ym_C z nr J (8 * 0) ni (zv_up g0 (b0 : Int) (zi_shl 1 (m : Int))) := C1.mpr ⟨V, hV, fun c c1 c2 c3 => by
        by_cases ec : c = b0
        · subst ec; rw [e20]; exact e
        · rw [e2n c ec]; exact hp c (by omega) c3⟩
      rw [q1] at hn
      split at hn <;> omega
  · rw [zb_bit0 (t := g b0) (i := (m : Int)) i0 (by omega) hb, if_pos rfl]
    refine k (f, g0, S0) hi ⟨I1, next fun V hV hp e => hb ?_⟩
    rw [← e, lg.2, decide_eq_true (hV.1 b0 hm0).1, (hV.1 b0 hm0).2, decide_eq_true (ym_lg H HN hz hV hb0 hx0)]; rfl
theorem ym_first (H : ym_H nr J) (HN : ∀ a : Nat, a < 8 → ∀ b, zb (nr a) b = true → b < 8 ∧ zb ni b = true) (hz : z24 z) (hni : z24 ni) (hn8 : ∀ b, zb ni b = true → b < 8) (hne : ∃ b : Nat, b < 8 ∧ zb ni b = true) {f2 : Int} {g1 g3 g4 : Int → Int} :
    zh_ok (zf_Matcher_findFirst_24 z f2 ni J g1 nr g3 g4) fun o => (o.1 = 1 ∧ ym_F z nr J ni (fun b => (o.2.2.2.2 b).toNat) ∧ ∀ b : Nat, b < 8 → zb ni b = true → 0 ≤ o.2.2.2.2 b) ∨ (o.1 = 0 ∧ ∀ V, ¬ ym_Y z nr J ni V) := by
  unfold zf_Matcher_findFirst_24
  refine zh_bind (ym_begin (fun i hi => (H.2.2.1 i hi).1) fun j hj => (H.1 j hj).1) fun r1 h1 => ?_
  obtain ⟨-, hrow, htw⟩ := h1
  refine zh_sum (Q := fun q => match q with
    | .inl a => ym_F z nr J ni (fun b => (a.2.2 b).toNat) ∧ ∀ b : Nat, b < 8 → zb ni b = true → 0 ≤ a.2.2 b
    | .inr o => o.1 = 0 ∧ ∀ V, ¬ ym_Y z nr J ni V)
    (zh_loop (F := fun n i (a : Int × (Int → Int) × (Int → Int)) => zf_Matcher_findFirst_24_l0 ni J nr r1.2.2 n i a.1 a.2.1 a.2.2) (N := 8) (I := fun i a => ∃ sx : Nat → Nat, (∀ b : Nat, b < 8 → zb ni b = true → i ≤ (b : Int) → ym_Lg z nr J a.2.1 b) ∧ (∀ b : Nat, b < 8 → zb ni b = true → (b : Int) < i → a.2.1 b = zi_shl 1 (sx b : Int) ∧ sx b < 24 ∧ zb z (sx b) = true) ∧
      (∀ b : Nat, b < 8 → zb ni b = true → (b : Int) < i → ∀ V, ym_Y z nr J ni V → (∀ c : Nat, c < b → zb ni c = true → V c = sx c) → sx b ≤ V b) ∧ ((∃ c : Nat, (c : Int) < i ∧ zb ni c = true) → ym_Y z nr J ni (fun b => (a.2.2 b).toNat) ∧ (∀ c : Nat, (c : Int) < i → zb ni c = true → (a.2.2 c).toNat = sx c) ∧ ∀ b : Nat, b < 8 → zb ni b = true → 0 ≤ a.2.2 b)) (fun n i a i0 i1 hI k => ?_) 8 0 (r1.1, r1.2.1, g4) zi_fu (by decide) (by decide) (by decide) (by decide)
      ⟨fun _ => 0, fun b b1 _ _ => hrow b b1, fun b _ _ b3 => by omega, fun b _ _ b3 => by omega, fun ⟨c, c1, _⟩ => by omega⟩) (fun a ha => zh_ret (.inl ⟨rfl, ha⟩)) fun o ho => zh_ret (.inr ho)
  obtain ⟨f, g, S⟩ := a
  obtain ⟨sx, I1, I2, I3, I4⟩ := hI
  show zh_ok (zf_Matcher_findFirst_24_l0_b ni J nr r1.2.2 (zf_Matcher_findFirst_24_l0 ni J nr r1.2.2 n) i f g S) _
  unfold zf_Matcher_findFirst_24_l0_b
  refine zh_ite (fun hi => ?_) fun hi => zh_ret ?_
  · obtain ⟨b0, rfl⟩ : ∃ b0 : Nat, i = b0 := ⟨i.toNat, by omega⟩
    rw [zi_w_id (x := (b0 : Int) + 1) (by omega) (by omega)]
    by_cases hb : zb ni b0 = true
    · rw [zb_bit1 (t := ni) (i := (b0 : Int)) i0 (by omega) hb, if_neg (show ¬ (1 : Int) = 0 by decide)]
      refine zh_bind (ym_settle H HN hz hni hn8 htw (by omega : b0 < 8) hb (fun b b1 b2 b3 => I1 b b1 b2 (by omega)) fun b b1 b2 b3 => I2 b b1 b2 (by omega)) fun r4 h4 => ?_
      rcases h4 with ⟨q0, m, q1, q2, q3, q4, q5, q6, q7, q8, q9⟩ | ⟨q0, q1⟩
      · rw [if_neg (by rw [q0]; decide)]
        obtain ⟨sx2, e2⟩ : ∃ sx2 : Nat → Nat, sx2 = fun b => if b = b0 then m else sx b := ⟨_, rfl⟩
        have e20 : sx2 b0 = m := by rw [e2]; exact if_pos rfl
        have e2n : ∀ b, b ≠ b0 → sx2 b = sx b := fun b hne => by rw [e2]; exact if_neg hne
        refine k (_, _, _) hi ⟨sx2, fun b b1 b2 b3 => ?_, fun b b1 b2 b3 => ?_, fun b b1 b2 b3 V hV hp => ?_, fun _ => ⟨q6, fun c c1 c2 => ?_, q9⟩⟩
        · show ym_Lg z nr J r4.2.2.1 b
          unfold ym_Lg
          rw [q3 b b1 (by omega)]
          exact I1 b b1 b2 (by omega)
        · show r4.2.2.1 b = _ ∧ _
          by_cases e : b = b0
          · subst e; rw [q4, e20]; exact ⟨rfl, q1, q2⟩
          · rw [q3 b b1 e, e2n b e]; exact I2 b b1 b2 (by omega)
        · by_cases e : b = b0
          · subst e
            rw [e20]
            exact q5 V hV fun c c1 c2 => by rw [← e2n c (by omega)]; exact hp c c1 c2
          · rw [e2n b e]
            exact I3 b b1 b2 (by omega) V hV fun c c1 c2 => by rw [← e2n c (by omega)]; exact hp c c1 c2
        · by_cases e : c = b0
          · subst e; rw [e20]; exact q8
          · rw [e2n c e]; exact q7 c (by omega) c2
      · rw [if_pos q0]
        refine zh_ret ⟨rfl, fun V hV => ?_⟩
        by_cases c : ∃ c : Nat, (c : Int) < (b0 : Int) ∧ zb ni c = true
        · obtain ⟨w1, w2, -⟩ := I4 c
          exact q1 _ w1 fun c c1 c2 => w2 c (by omega) c2
        · exact q1 V hV fun d d1 d2 => absurd ⟨d, by omega, d2⟩ c
    · rw [zb_bit0 (t := ni) (i := (b0 : Int)) i0 (by omega) hb, if_pos rfl]
      have ne : ∀ b : Nat, zb ni b = true → (b : Int) < (b0 : Int) + 1 → (b : Int) < (b0 : Int) := fun b b1 b2 => by
        by_cases e : b = b0
        · subst e; exact absurd b1 hb
        · omega
      exact k (f, g, S) hi ⟨sx, fun b b1 b2 b3 => I1 b b1 b2 (by omega), fun b b1 b2 b3 => I2 b b1 b2 (ne b b2 b3), fun b b1 b2 b3 => I3 b b1 b2 (ne b b2 b3), fun ⟨c, c1, c2⟩ => by
        obtain ⟨w1, w2, w3⟩ := I4 ⟨c, ne c c2 c1, c2⟩
        exact ⟨w1, fun d d1 d2 => w2 d (ne d d2 d1) d2, w3⟩⟩
  · obtain ⟨b, b1, b2⟩ := hne
    obtain ⟨w1, w2, w3⟩ := I4 ⟨b, by omega, b2⟩
    refine ⟨⟨w1, fun b b1 b2 V hV hp => ?_⟩, w3⟩
    show (S (b : Int)).toNat ≤ V b
    have e : (S (b : Int)).toNat = sx b := w2 b (by omega) b2
    rw [e]
    refine I3 b b1 b2 (by omega) V hV fun c c1 c2 => ?_
    rw [hp c c1 c2]
    exact w2 c (by omega) c2
end YCF
