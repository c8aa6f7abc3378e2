/-! spread and sails: alike. -/
section YMT
variable {ts : Int} {gp gl m : Int → Int}
theorem ym_spread_l (z : yk_sea ts gp gl m) : ∀ (d : Nat) (k t : Int) (D Q E P : Int → Int) (n : Nat), 288 - k ≤ d → 0 ≤ k → d < n → ym_D t D Q E P →
    ∃ t' D' Q' E' P', zf_Pilot_spread_288_l0 gl n t k D Q = some (D', Q') ∧ zf_M_sails_288_l1 m n t k E P = some (E', P') ∧ ym_D t' D' Q' E' P' := by
  intro d
  induction d with
  | zero =>
    intro k t D Q E P n e k0 hn h
    obtain ⟨n, rfl⟩ : ∃ q, n = q + 1 := ⟨n - 1, by omega⟩
    have ht := h.1
    refine ⟨t, D, Q, E, P, ?_, ?_, h⟩
    · show zf_Pilot_spread_288_l0_b gl (zf_Pilot_spread_288_l0 gl n) t k D Q = _
      unfold zf_Pilot_spread_288_l0_b
      rw [if_neg (by omega)]
    · show zf_M_sails_288_l1_b m (zf_M_sails_288_l1 m n) t k E P = _
      unfold zf_M_sails_288_l1_b
      rw [if_neg (by omega)]
  | succ d ih =>
    intro k t D Q E P n e k0 hn h
    obtain ⟨n, rfl⟩ : ∃ q, n = q + 1 := ⟨n - 1, by omega⟩
    have ht := h.1
    show ∃ t' D' Q' E' P', zf_Pilot_spread_288_l0_b gl (zf_Pilot_spread_288_l0 gl n) t k D Q = _ ∧ zf_M_sails_288_l1_b m (zf_M_sails_288_l1 m n) t k E P = _ ∧ _
    unfold zf_Pilot_spread_288_l0_b zf_M_sails_288_l1_b
    by_cases c : k < t
    · obtain ⟨t1, D1, Q1, E1, P1, e1, e2, e3, e4⟩ := ym_four z k0 4 1 t D Q E P zi_fu (by decide) (by decide) (by decide) c h
      rw [if_pos c, if_pos c, if_pos (show k < 288 by omega), zl_ci k0 (by omega), e1, e2, zl_b, zl_b, zi_w_id (x := k + 1) (by omega) (by omega)]
      exact ih (k + 1) t1 D1 Q1 E1 P1 n (by omega) (by omega) (by omega) e4
    · rw [if_neg c, if_neg c]
      exact ⟨t, D, Q, E, P, rfl, rfl, h⟩
theorem ze_fill288_l0 {v : Int} : ∀ (d : Nat) (j : Int) (g : Int → Int) (n : Nat), j + d = 288 → 0 ≤ j → d < n → ∃ g2, zf_Arrays_fill_288_l0 v 288 n j g = some g2 ∧ (∀ i, j ≤ i → i < 288 → g2 i = v) ∧ ∀ i, i < j → g2 i = g i := by
  intro d
  induction d with
  | zero =>
    intro j g n e _ hn
    obtain ⟨n, rfl⟩ : ∃ q, n = q + 1 := ⟨n - 1, by omega⟩
    refine ⟨g, ?_, fun i _ _ => by omega, fun _ _ => rfl⟩
    show zf_Arrays_fill_288_l0_b v 288 (zf_Arrays_fill_288_l0 v 288 n) j g = _
    unfold zf_Arrays_fill_288_l0_b
    rw [if_neg (by omega)]
  | succ d ih =>
    intro j g n e j0 hn
    obtain ⟨n, rfl⟩ : ∃ q, n = q + 1 := ⟨n - 1, by omega⟩
    obtain ⟨g2, e1, a, b⟩ := ih (j + 1) (zv_up g j v) n (by omega) (by omega) (by omega)
    refine ⟨g2, ?_, fun i i1 i2 => ?_, fun i i1 => ?_⟩
    · show zf_Arrays_fill_288_l0_b v 288 (zf_Arrays_fill_288_l0 v 288 n) j g = _
      unfold zf_Arrays_fill_288_l0_b
      rw [if_pos (by omega), zl_ci j0 (by omega), zi_w_id (x := j + 1) (by omega) (by omega), e1]
    · by_cases q : i = j
      · subst q
        rw [b i (by omega), zv_up_s]
      · exact a i (by omega) i2
    · rw [b i (by omega), zv_up_n (by omega)]
theorem ze_far_l0 : ∀ (d : Nat) (j : Int) (g : Int → Int) (n : Nat), j + d = 288 → 0 ≤ j → d < n → ∃ g2, zf_M_sails_288_l0 n j g = some g2 ∧ (∀ i, j ≤ i → i < 288 → g2 i = 1000000000) ∧ ∀ i, i < j → g2 i = g i := by
  intro d
  induction d with
  | zero =>
    intro j g n e _ hn
    obtain ⟨n, rfl⟩ : ∃ q, n = q + 1 := ⟨n - 1, by omega⟩
    refine ⟨g, ?_, fun i _ _ => by omega, fun _ _ => rfl⟩
    show zf_M_sails_288_l0_b (zf_M_sails_288_l0 n) j g = _
    unfold zf_M_sails_288_l0_b
    rw [if_neg (by omega)]
  | succ d ih =>
    intro j g n e j0 hn
    obtain ⟨n, rfl⟩ : ∃ q, n = q + 1 := ⟨n - 1, by omega⟩
    obtain ⟨g2, e1, a, b⟩ := ih (j + 1) (zv_up g j 1000000000) n (by omega) (by omega) (by omega)
    refine ⟨g2, ?_, fun i i1 i2 => ?_, fun i i1 => ?_⟩
    · show zf_M_sails_288_l0_b (zf_M_sails_288_l0 n) j g = _
      unfold zf_M_sails_288_l0_b
      rw [if_pos (by omega), zl_ci j0 (by omega), zi_w_id (x := j + 1) (by omega) (by omega), e1]
    · by_cases q : i = j
      · subst q
        rw [b i (by omega), zv_up_s]
      · exact a i (by omega) i2
    · rw [b i (by omega), zv_up_n (by omega)]
theorem yn_zero {f : Nat → Bool} : ∀ n : Nat, (∀ j, j < n → f j = false) → yn_n f n = 0
  | 0, _ => rfl
  | n + 1, h => by
    show yn_n f n + (if f n = true then 1 else 0) = 0
    rw [yn_zero n fun j hj => h j (by omega), h n (by omega)]; rfl
theorem ym_spread (z : yk_sea ts gp gl m) {x : Int} (x1 : 0 ≤ x) (x2 : x < 288) {g0 g1 h0 h1 : Int → Int} : ∃ t D Q E P, zf_Pilot_spread_288 x g0 g1 gl = some (D, Q) ∧ zf_M_sails_288 x h0 h1 m = some (E, P) ∧ ym_D t D Q E P := by
  obtain ⟨D0, e0, a0, -⟩ := ze_fill288_l0 (v := -1) 288 0 g0 zi_fu (by decide) (by decide) (by decide)
  obtain ⟨E0, f0, b0, -⟩ := ze_far_l0 288 0 h0 zi_fu (by decide) (by decide) (by decide)
  have hi : ym_D 1 (zv_up D0 x 0) (zv_up g1 0 x) (zv_up E0 x 0) (zv_up h1 0 x) := by
    refine ⟨⟨by decide, by decide⟩, fun v v1 v2 => ?_, ?_, fun i i0 i1 => ?_⟩
    · by_cases w : v = x
      · subst w; rw [zv_up_s, zv_up_s]; exact .inr ⟨by decide, by decide, rfl⟩
      · rw [zv_up_n w, zv_up_n w]; exact .inl ⟨a0 v v1 v2, b0 v v1 v2⟩
    · have zz : yn_n (fun j : Nat => decide (D0 j ≠ -1)) 288 = 0 := yn_zero 288 fun j hj => by
        show decide (D0 (j : Int) ≠ -1) = false
        rw [a0 j (by omega) (by omega)]; rfl
      rw [yn_add (f := fun j : Nat => decide (D0 j ≠ -1)) (k := x.toNat) ?_ ?_ 288 (by omega) fun j _ hn => ?_, zz]
      · rfl
      · show decide (D0 (x.toNat : Int) ≠ -1) = false
        rw [a0 _ (by omega) (by omega)]; rfl
      · show decide (zv_up D0 x 0 (x.toNat : Int) ≠ -1) = true
        rw [Int.toNat_of_nonneg x1, zv_up_s]; rfl
      · show decide (D0 (j : Int) ≠ -1) = decide (zv_up D0 x 0 (j : Int) ≠ -1)
        rw [zv_up_n (by omega)]
    · obtain rfl : i = 0 := by omega
      rw [zv_up_s, zv_up_s, zv_up_s]
      exact ⟨rfl, ⟨x1, x2⟩, by decide⟩
  obtain ⟨t, D, Q, E, P, e1, e2, h⟩ := ym_spread_l z 288 0 1 _ _ _ _ zi_fu (by decide) (by decide) (by decide) hi
  refine ⟨t, D, Q, E, P, ?_, ?_, h⟩
  · unfold zf_Pilot_spread_288 zf_Arrays_fill_288
    rw [e0, zl_b, zl_b, zl_ci x1 (by omega), e1, zl_b]
  · unfold zf_M_sails_288
    rw [f0, zl_b, zl_ci x1 (by omega), e2, zl_b]
end YMT
