/-! Lines that hold: alike on both sides. -/
section YHO
variable {G H : Int → Int}
theorem zb_clr {x w : Int} (w1 : 0 ≤ w) (w2 : w < 24) {q : Nat} (hq : q < 24) : zb (zi_and x (zi_xor (zi_shl 1 w) (-1))) q = (zb x q && !decide (q = w.toNat)) := by
  rw [zb_and, zb_not (by omega), zb_shl w1 (by omega)]
theorem yh_back {x w : Int} (hx : z24 x) (w1 : 0 ≤ w) (w2 : w < 24) (hb : zb x w.toNat = true) : zi_or (zi_and x (zi_xor (zi_shl 1 w) (-1))) (zi_shl 1 w) = x := by
  refine z24_ext (z24_or (z24_and hx) (z24_shl w1 w2)) hx fun j hj => ?_
  rw [zb_or, zb_clr w1 w2 hj, zb_shl w1 (by omega)]
  by_cases e : j = w.toNat
  · rw [e, hb, decide_eq_true (rfl : w.toNat = w.toNat)]; rfl
  · rw [decide_eq_false e]; cases zb x j <;> rfl
theorem yo_hold1 (hG : ∀ j : Nat, j < 24 → z24 (G j)) (sym : ∀ p q : Nat, p < 24 → q < 24 → zb (G p) q = true → zb (G q) p = true) {i : Int} (i0 : 0 ≤ i) (i1 : i < 24) : ∀ (d : Nat) (j c : Int) (H : Int → Int) (n : Nat), j + d = 24 → i < j → d < n → 0 ≤ c → c ≤ 24 * i + j → (∀ p : Nat, p < 24 → G p = H p) →
    ∃ c' H', zf_View_countHolding_l1 i G n c j = some c' ∧ zf_M_holding_l1 i n c j H = some (c', H') ∧ (0 ≤ c' ∧ c' ≤ 24 * i + 24) ∧ ∀ p : Nat, p < 24 → G p = H' p := by
  intro d
  induction d with
  | zero =>
    intro j c H n e j0 hn c0 c1 eh
    obtain ⟨n, rfl⟩ : ∃ q, n = q + 1 := ⟨n - 1, by omega⟩
    refine ⟨c, H, ?_, ?_, ⟨c0, by omega⟩, eh⟩
    · show zf_View_countHolding_l1_b i G (zf_View_countHolding_l1 i G n) c j = _
      unfold zf_View_countHolding_l1_b
      rw [if_neg (by omega)]
    · show zf_M_holding_l1_b i (zf_M_holding_l1 i n) c j H = _
      unfold zf_M_holding_l1_b
      rw [if_neg (by omega)]
  | succ d ih =>
    intro j c H n e j0 hn c0 c1 eh
    obtain ⟨n, rfl⟩ : ∃ q, n = q + 1 := ⟨n - 1, by omega⟩
    have zi := hG i.toNat (by omega)
    have ei := eh i.toNat (by omega)
    rw [Int.toNat_of_nonneg i0] at zi ei
    have zj := hG j.toNat (by omega)
    have ej := eh j.toNat (by omega)
    rw [Int.toNat_of_nonneg (by omega)] at zj ej
    show ∃ c' H', zf_View_countHolding_l1_b i G (zf_View_countHolding_l1 i G n) c j = _ ∧ zf_M_holding_l1_b i (zf_M_holding_l1 i n) c j H = _ ∧ _
    unfold zf_View_countHolding_l1_b zf_M_holding_l1_b
    rw [if_pos (show j < 24 by omega), if_pos (show j < 24 by omega), zl_ci i0 (by omega), zl_ci i0 (by omega), ← ei, ze_mh zi (show 0 ≤ j by omega) (by omega), zl_b, zb_bit (show 0 ≤ j by omega) (by omega), zi_w_id (x := j + 1) (by omega) (by omega)]
    by_cases q : zb (G i) j.toNat = true
    · have q2 : zb (G j) i.toNat = true := by
        have := sym i.toNat j.toNat (by omega) (by omega) (by rw [Int.toNat_of_nonneg i0]; exact q)
        rwa [Int.toNat_of_nonneg (by omega)] at this
      rw [if_pos q, if_neg (show ¬ (1 : Int) = 0 by decide), if_neg (show ¬ (1 : Int) = 0 by decide), zl_ci (show 0 ≤ j by omega) (by omega)]
      have ne : i ≠ j := by omega
      obtain ⟨s, e1, h1⟩ := yx_reach (u := i) (v := j) hG (.inr ⟨i0, i1, by omega, by omega⟩) i0 i1
      obtain ⟨H2, hH2⟩ : ∃ H2, H2 = zv_up (zv_up H i (zi_and (G i) (zi_xor (zi_shl 1 j) (-1)))) j (zi_and ((zv_up H i (zi_and (G i) (zi_xor (zi_shl 1 j) (-1)))) j) (zi_xor (zi_shl 1 i) (-1))) := ⟨_, rfl⟩
      rw [← hH2]
      have h2i : H2 i = zi_and (G i) (zi_xor (zi_shl 1 j) (-1)) := by rw [hH2, zv_up_n ne, zv_up_s]
      have h2j : H2 j = zi_and (G j) (zi_xor (zi_shl 1 i) (-1)) := by rw [hH2, zv_up_s, zv_up_n (Ne.symm ne), ej]
      have h2o : ∀ p, p ≠ i → p ≠ j → H2 p = H p := fun p p1 p2 => by rw [hH2, zv_up_n p2, zv_up_n p1]
      have z2 : ∀ p : Nat, p < 24 → z24 (H2 p) := fun p hp => by
        by_cases a : (p : Int) = i
        · rw [a, h2i]; exact z24_and zi
        by_cases b : (p : Int) = j
        · rw [b, h2j]; exact z24_and zj
        rw [h2o _ a b, ← eh p hp]; exact hG p hp
      obtain ⟨s2, e2, h2⟩ := ym_figureOf z2 i0 i1
      have eE : ∀ p b, p < 24 → b < 24 → yg_E H2 (-1) (-1) p b = yg_E G i j p b := fun p b hp hb => by
        rw [yg_E_m1]
        unfold yg_E
        by_cases a : (p : Int) = i
        · rw [a, h2i, zb_clr (by omega) (by omega) hb, decide_eq_false (show ¬ (i = j ∧ (b : Int) = i) by omega), Bool.or_false]
          congr 2
          rw [decide_eq_decide]; omega
        by_cases c : (p : Int) = j
        · rw [c, h2j, zb_clr i0 i1 hb, decide_eq_false (show ¬ (j = i ∧ (b : Int) = j) by omega), Bool.false_or]
          congr 2
          rw [decide_eq_decide]; omega
        rw [h2o _ a c, ← eh p hp, decide_eq_false (show ¬ ((p : Int) = i ∧ (b : Int) = j) by omega), decide_eq_false (show ¬ ((p : Int) = j ∧ (b : Int) = i) by omega)]
        simp
      have es := yg_re_eq h1 (yg_re_cg eE h2)
      subst es
      have zs := h1.1
      rw [e1, e2, zl_b, zl_b, ze_mh zs (show 0 ≤ j by omega) (by omega), zl_b, zb_bit (show 0 ≤ j by omega) (by omega), h2i, yh_back zi (by omega) (by omega) q, zv_up_n (Ne.symm ne), h2j, yh_back zj i0 i1 q2]
      have eh2 : ∀ p : Nat, p < 24 → G p = zv_up (zv_up H2 i (G i)) j (G j) p := fun p hp => by
        by_cases b : (p : Int) = j
        · rw [b, zv_up_s]
        by_cases a : (p : Int) = i
        · rw [zv_up_n b, a, zv_up_s]
        rw [zv_up_n b, zv_up_n a, h2o _ a b]; exact eh p hp
      by_cases w : zb s j.toNat = true
      · rw [if_pos w, if_neg (show ¬ (1 : Int) = 0 by decide), if_neg (show ¬ (1 : Int) = 0 by decide), zi_w_id (x := c + 0) (by omega) (by omega), Int.add_zero]
        exact ih (j + 1) c _ n (by omega) (by omega) (by omega) c0 (by omega) eh2
      · rw [if_neg w, if_pos rfl, if_pos rfl, zi_w_id (x := c + 1) (by omega) (by omega)]
        exact ih (j + 1) (c + 1) _ n (by omega) (by omega) (by omega) (by omega) (by omega) eh2
    · rw [if_neg q, if_pos rfl, if_pos rfl]
      exact ih (j + 1) c H n (by omega) (by omega) (by omega) c0 (by omega) eh
end YHO
