/-! looksBoth; home's small loops. -/
section YBO
variable {L : zLW} {K V kd fr hf to C mk mf mh mt : Int → Int} {nc tS tL sP lP mc : Int} {t h u cl sc sr ch : Int} {co ro br wc wr m : Int → Int}
theorem ym_both (R : yl_R L K V nc tS tL sP lP kd fr hf to mc C mk mf mh mt) (k : yk_sky t h u cl sc sr ch co ro br wc wr m) {p q f1 : Int} {g2 g6 g7 g8 : Int → Int} (p1 : 0 ≤ p) (p2 : p < 288) (q1 : 0 ≤ q) (q2 : q < 288) {s1 s2 : Int} {J1 J2 : Int → Int}
    (i1 : yv_is L tS t h u cl sc sr co ro br (p % 24) (p / 24) s1) (l1 : yv_il s1 (yv_D L h u co ro br (p % 24) (p / 24)) J1) (i2 : yv_is L tS t h u cl sc sr co ro br (q % 24) (q / 24) s2) (l2 : yv_il s2 (yv_D L h u co ro br (q % 24) (q / 24)) J2) :
    ∃ g2' g6' H g8', zf_M_looksBoth p q mc f1 m mk g2 mh mt C g6 g7 g8 = some (zi_and s1 s2, g2', g6', H, g8') ∧ ∀ i, 0 ≤ i → i < 24 → H i = zi_and (J1 i) (J2 i) := by
  obtain ⟨r1, a2, a6, A, e1, b1, c1⟩ := ym_looks (f1 := f1) (g := g2) (S := g6) (J := g7) (x := p % 24) (y := p / 24) R k (by omega) (by omega) (by omega) (by omega)
  rw [show 24 * (p / 24) + p % 24 = p by omega] at e1
  have es := yv_is_eq b1 i1
  subst es
  obtain ⟨r2, d2, d6, D, e2, b2, c2⟩ := ym_looks (f1 := r1) (g := a2) (S := a6) (J := A) (x := q % 24) (y := q / 24) R k (by omega) (by omega) (by omega) (by omega)
  rw [show 24 * (q / 24) + q % 24 = q by omega] at e2
  have es := yv_is_eq b2 i2
  subst es
  obtain ⟨B, e3, hB, -⟩ := yb_l0 (g1 := A) 24 0 g8 zi_fu (by decide) (by decide) (by decide)
  obtain ⟨H, e4, hH, -⟩ := yb_l1 (g1 := B) 24 0 D zi_fu (by decide) (by decide) (by decide)
  refine ⟨d2, d6, H, B, ?_, fun i i0 i1' => ?_⟩
  · unfold zf_M_looksBoth
    rw [e1, zl_b]
    dsimp only
    rw [e3, zl_b, e2, zl_b]
    dsimp only
    rw [e4, zl_b, zi_and_cm (a := r2)]
  · rw [hH i i0 i1', hB i i0 i1', yv_il_eq c1 l1 i i0 i1', yv_il_eq c2 l2 i i0 i1', zi_and_cm]
theorem yh_l0 {g1 : Int → Int} : ∀ (d : Nat) (j : Int) (g : Int → Int) (n : Nat), j + d = 24 → 0 ≤ j → d < n → ∃ g2, zf_M_home_l0 g1 n j g = some g2 ∧ (∀ i, j ≤ i → i < 24 → g2 i = g1 i) ∧ ∀ i, i < j → g2 i = g i := by
  intro d
  induction d with
  | zero =>
    intro j g n e _ hn
    obtain ⟨n, rfl⟩ : ∃ q, n = q + 1 := ⟨n - 1, by omega⟩
    refine ⟨g, ?_, fun i _ _ => by omega, fun _ _ => rfl⟩
    show zf_M_home_l0_b g1 (zf_M_home_l0 g1 n) j g = _
    unfold zf_M_home_l0_b
    rw [if_neg (by omega)]
  | succ d ih =>
    intro j g n e j0 hn
    obtain ⟨n, rfl⟩ : ∃ q, n = q + 1 := ⟨n - 1, by omega⟩
    obtain ⟨g2, e1, a, b⟩ := ih (j + 1) (zv_up g j (g1 j)) n (by omega) (by omega) (by omega)
    refine ⟨g2, ?_, fun i i1 i2 => ?_, fun i i1 => ?_⟩
    · show zf_M_home_l0_b g1 (zf_M_home_l0 g1 n) j g = _
      unfold zf_M_home_l0_b
      rw [if_pos (by omega), zl_ci j0 (by omega), zi_w_id (x := j + 1) (by omega) (by omega), e1]
    · by_cases q : i = j
      · subst q
        rw [b i (by omega), zv_up_s]
      · exact a i (by omega) i2
    · rw [b i (by omega), zv_up_n (by omega)]
theorem yh_l2 {G H : Int → Int} : ∀ (d : Nat) (j x : Int) (n : Nat), j + d = 24 → 0 ≤ j → d < n → (x = 0 ∨ x = 1) → (zf_M_home_l2 G H n x j = some 1 ∧ x = 1 ∧ ∀ i, j ≤ i → i < 24 → G i = H i) ∨ (zf_M_home_l2 G H n x j = some 0 ∧ (x = 0 ∨ ∃ i, j ≤ i ∧ i < 24 ∧ G i ≠ H i)) := by
  intro d
  induction d with
  | zero =>
    intro j x n e _ hn hx
    obtain ⟨n, rfl⟩ : ∃ q, n = q + 1 := ⟨n - 1, by omega⟩
    have : zf_M_home_l2 G H (n + 1) x j = some x := by
      show zf_M_home_l2_b G H (zf_M_home_l2 G H n) x j = _
      unfold zf_M_home_l2_b
      rw [if_neg (by omega)]
    rw [this]
    rcases hx with hx | hx
    · exact .inr ⟨by rw [hx], .inl hx⟩
    · exact .inl ⟨by rw [hx], hx, fun i _ _ => by omega⟩
  | succ d ih =>
    intro j x n e j0 hn hx
    obtain ⟨n, rfl⟩ : ∃ q, n = q + 1 := ⟨n - 1, by omega⟩
    show (zf_M_home_l2_b G H (zf_M_home_l2 G H n) x j = _ ∧ _) ∨ (zf_M_home_l2_b G H (zf_M_home_l2 G H n) x j = _ ∧ _)
    unfold zf_M_home_l2_b
    rw [if_pos (show j < 24 by omega), zi_w_id (x := j + 1) (by omega) (by omega)]
    by_cases c : x = 0
    · rw [if_pos c]
      rcases ih (j + 1) 0 n (by omega) (by omega) (by omega) (.inl rfl) with ⟨e1, w, _⟩ | ⟨e1, _⟩
      · exact absurd w (by decide)
      · exact .inr ⟨e1, .inl c⟩
    rw [if_neg c, zl_ci j0 (by omega)]
    by_cases q : G j = H j
    · rw [if_pos q]
      rcases ih (j + 1) 1 n (by omega) (by omega) (by omega) (.inr rfl) with ⟨e1, _, a⟩ | ⟨e1, w | ⟨i, i0, i1, a⟩⟩
      · refine .inl ⟨e1, by omega, fun i i0 i1 => ?_⟩
        by_cases z : i = j
        · subst z; exact q
        · exact a i (by omega) i1
      · exact absurd w (by decide)
      · exact .inr ⟨e1, .inr ⟨i, by omega, i1, a⟩⟩
    · rw [if_neg q]
      rcases ih (j + 1) 0 n (by omega) (by omega) (by omega) (.inl rfl) with ⟨e1, w, _⟩ | ⟨e1, _⟩
      · exact absurd w (by decide)
      · exact .inr ⟨e1, .inr ⟨j, Int.le_refl _, by omega, q⟩⟩
end YBO
