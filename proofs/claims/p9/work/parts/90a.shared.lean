/-! What is seen from both places: alike on both sides. -/
section YSB
theorem yb_keep_l {g1 : Int → Int} : ∀ (d : Nat) (j : Int) (g : Int → Int) (n : Nat), j + d = 24 → 0 ≤ j → d < n → ∃ g2, zf_View_keepShared_l0 g1 n j g = some g2 ∧ (∀ i, j ≤ i → i < 24 → g2 i = zi_and (g i) (g1 i)) ∧ ∀ i, i < j → g2 i = g i := by
  intro d
  induction d with
  | zero =>
    intro j g n e _ hn
    obtain ⟨n, rfl⟩ : ∃ q, n = q + 1 := ⟨n - 1, by omega⟩
    refine ⟨g, ?_, fun i _ _ => by omega, fun _ _ => rfl⟩
    show zf_View_keepShared_l0_b g1 (zf_View_keepShared_l0 g1 n) j g = _
    unfold zf_View_keepShared_l0_b
    rw [if_neg (by omega)]
  | succ d ih =>
    intro j g n e j0 hn
    obtain ⟨n, rfl⟩ : ∃ q, n = q + 1 := ⟨n - 1, by omega⟩
    obtain ⟨g2, e1, a, b⟩ := ih (j + 1) (zv_up g j (zi_and (g j) (g1 j))) n (by omega) (by omega) (by omega)
    refine ⟨g2, ?_, fun i i1 i2 => ?_, fun i i1 => ?_⟩
    · show zf_View_keepShared_l0_b g1 (zf_View_keepShared_l0 g1 n) j g = _
      unfold zf_View_keepShared_l0_b
      rw [if_pos (by omega), zl_ci j0 (by omega), zi_w_id (x := j + 1) (by omega) (by omega), e1]
    · by_cases q : i = j
      · subst q
        rw [b i (by omega), zv_up_s]
      · rw [a i (by omega) i2, zv_up_n q]
    · rw [b i (by omega), zv_up_n (by omega)]
theorem yb_l0 {g1 : Int → Int} : ∀ (d : Nat) (j : Int) (g : Int → Int) (n : Nat), j + d = 24 → 0 ≤ j → d < n → ∃ g2, zf_M_looksBoth_l0 g1 n j g = some g2 ∧ (∀ i, j ≤ i → i < 24 → g2 i = g1 i) ∧ ∀ i, i < j → g2 i = g i := by
  intro d
  induction d with
  | zero =>
    intro j g n e _ hn
    obtain ⟨n, rfl⟩ : ∃ q, n = q + 1 := ⟨n - 1, by omega⟩
    refine ⟨g, ?_, fun i _ _ => by omega, fun _ _ => rfl⟩
    show zf_M_looksBoth_l0_b g1 (zf_M_looksBoth_l0 g1 n) j g = _
    unfold zf_M_looksBoth_l0_b
    rw [if_neg (by omega)]
  | succ d ih =>
    intro j g n e j0 hn
    obtain ⟨n, rfl⟩ : ∃ q, n = q + 1 := ⟨n - 1, by omega⟩
    obtain ⟨g2, e1, a, b⟩ := ih (j + 1) (zv_up g j (g1 j)) n (by omega) (by omega) (by omega)
    refine ⟨g2, ?_, fun i i1 i2 => ?_, fun i i1 => ?_⟩
    · show zf_M_looksBoth_l0_b g1 (zf_M_looksBoth_l0 g1 n) j g = _
      unfold zf_M_looksBoth_l0_b
      rw [if_pos (by omega), zl_ci j0 (by omega), zi_w_id (x := j + 1) (by omega) (by omega), e1]
    · by_cases q : i = j
      · subst q
        rw [b i (by omega), zv_up_s]
      · exact a i (by omega) i2
    · rw [b i (by omega), zv_up_n (by omega)]
theorem yb_l1 {g1 : Int → Int} : ∀ (d : Nat) (j : Int) (g : Int → Int) (n : Nat), j + d = 24 → 0 ≤ j → d < n → ∃ g2, zf_M_looksBoth_l1 g1 n j g = some g2 ∧ (∀ i, j ≤ i → i < 24 → g2 i = zi_and (g i) (g1 i)) ∧ ∀ i, i < j → g2 i = g i := by
  intro d
  induction d with
  | zero =>
    intro j g n e _ hn
    obtain ⟨n, rfl⟩ : ∃ q, n = q + 1 := ⟨n - 1, by omega⟩
    refine ⟨g, ?_, fun i _ _ => by omega, fun _ _ => rfl⟩
    show zf_M_looksBoth_l1_b g1 (zf_M_looksBoth_l1 g1 n) j g = _
    unfold zf_M_looksBoth_l1_b
    rw [if_neg (by omega)]
  | succ d ih =>
    intro j g n e j0 hn
    obtain ⟨n, rfl⟩ : ∃ q, n = q + 1 := ⟨n - 1, by omega⟩
    obtain ⟨g2, e1, a, b⟩ := ih (j + 1) (zv_up g j (zi_and (g j) (g1 j))) n (by omega) (by omega) (by omega)
    refine ⟨g2, ?_, fun i i1 i2 => ?_, fun i i1 => ?_⟩
    · show zf_M_looksBoth_l1_b g1 (zf_M_looksBoth_l1 g1 n) j g = _
      unfold zf_M_looksBoth_l1_b
      rw [if_pos (by omega), zl_ci j0 (by omega), zi_w_id (x := j + 1) (by omega) (by omega), e1]
    · by_cases q : i = j
      · subst q
        rw [b i (by omega), zv_up_s]
      · rw [a i (by omega) i2, zv_up_n q]
    · rw [b i (by omega), zv_up_n (by omega)]
theorem zi_and_cm {a b : Int} : zi_and a b = zi_and b a := by
  unfold zi_and
  refine zi_ev_zb fun j _ => ?_
  show zb (zi_and a b) j = zb (zi_and b a) j
  rw [zb_and, zb_and, Bool.and_comm]
theorem yb_keep {f0 f1 : Int} {g g1 : Int → Int} : ∃ g2, zf_View_keepShared f0 f1 g g1 = some (zi_and f0 f1, g2) ∧ ∀ i, 0 ≤ i → i < 24 → g2 i = zi_and (g i) (g1 i) := by
  obtain ⟨g2, e1, a, -⟩ := yb_keep_l (g1 := g1) 24 0 g zi_fu (by decide) (by decide) (by decide)
  refine ⟨g2, ?_, a⟩
  unfold zf_View_keepShared
  rw [e1]; rfl
theorem yo_lines_eq {G H : Int → Int} : ∀ (d : Nat) (j : Int) (n : Nat), j + d = 24 → 0 ≤ j → d < n → (zf_View_hasLinesOf_l0 G H n j = some (.inl ()) ∧ ∀ i, j ≤ i → i < 24 → G i = H i) ∨ (zf_View_hasLinesOf_l0 G H n j = some (.inr 0) ∧ ∃ i, j ≤ i ∧ i < 24 ∧ G i ≠ H i) := by
  intro d
  induction d with
  | zero =>
    intro j n e _ hn
    obtain ⟨n, rfl⟩ : ∃ q, n = q + 1 := ⟨n - 1, by omega⟩
    refine .inl ⟨?_, fun i _ _ => by omega⟩
    show zf_View_hasLinesOf_l0_b G H (zf_View_hasLinesOf_l0 G H n) j = _
    unfold zf_View_hasLinesOf_l0_b
    rw [if_neg (by omega)]
  | succ d ih =>
    intro j n e j0 hn
    obtain ⟨n, rfl⟩ : ∃ q, n = q + 1 := ⟨n - 1, by omega⟩
    show (zf_View_hasLinesOf_l0_b G H (zf_View_hasLinesOf_l0 G H n) j = _ ∧ _) ∨ (zf_View_hasLinesOf_l0_b G H (zf_View_hasLinesOf_l0 G H n) j = _ ∧ _)
    unfold zf_View_hasLinesOf_l0_b
    rw [if_pos (by omega), zl_ci j0 (by omega), zi_w_id (x := j + 1) (by omega) (by omega)]
    by_cases q : G j = H j
    · rw [if_pos q]
      rcases ih (j + 1) n (by omega) (by omega) (by omega) with ⟨e1, a⟩ | ⟨e1, i, i0, i1, a⟩
      · refine .inl ⟨e1, fun i i0 i1 => ?_⟩
        by_cases w : i = j
        · subst w; exact q
        · exact a i (by omega) i1
      · exact .inr ⟨e1, i, by omega, i1, a⟩
    · rw [if_neg q]
      exact .inr ⟨rfl, j, Int.le_refl _, by omega, q⟩
end YSB
