/-! count: alike but for the stars. -/
section YCO
variable {t h u cl sc sr ch ts : Int} {co ro br wc wr m gp gl : Int → Int}
theorem yc_row (z : yk_sea ts gp gl m) {y s : Int} (y1 : 0 ≤ y) (y2 : y < 12) (s0 : 0 ≤ s) (s1 : s ≤ 288) : ∀ (d k f : Nat), k + d = 24 → zf_M_landMany_l0 m (f + d) (s + zs_sum (gl y) k) (24 * y + k) = zf_M_landMany_l0 m f (s + zs_sum (gl y) 24) (24 * y + 24) := by
  obtain ⟨⟨-, -, -, -, hr, hl⟩, -⟩ := z
  intro d
  induction d with
  | zero =>
    intro k f e
    obtain rfl : k = 24 := by omega
    rfl
  | succ d ih =>
    intro k f e
    have b := zs_sum_in (t := gl y) k
    have hp := hl (k : Int) y (by omega) (by omega) y1 y2
    rw [show f + (d + 1) = (f + d) + 1 by omega]
    show zf_M_landMany_l0_b m (zf_M_landMany_l0 m (f + d)) (s + zs_sum (gl y) k) (24 * y + k) = _
    unfold zf_M_landMany_l0_b
    rw [if_pos (by omega), zi_w_id (x := 134 + (24 * y + (k : Int))) (by omega) (by omega), zl_ci (by omega) (by omega), hp, zi_w_id (x := 24 * y + (k : Int) + 1) (by omega) (by omega), zi_w_id (x := s + zs_sum (gl y) k + (if zi_tb (gl y) (k : Int) = true then 1 else 0)) (by split <;> omega) (by split <;> omega)]
    have := ih (k + 1) f (by omega)
    rw [← this]
    congr 1
    · show _ = s + (zs_sum (gl y) k + (if zi_tb (gl y) (k : Int) = true then 1 else 0))
      omega
    · omega
theorem yc_land_l (z : yk_sea ts gp gl m) : ∀ (d : Nat) (y s : Int) (f f2 : Nat), y + d = 12 → 0 ≤ y → 0 ≤ s → s ≤ 24 * y → d < f → 24 * d < f2 → ∃ a, zf_Sea_countLand_l0 gl f s y = some a ∧ zf_M_landMany_l0 m f2 s (24 * y) = some a := by
  intro d
  induction d with
  | zero =>
    intro y s f f2 e y0 s0 s1 hf hf2
    obtain ⟨f, rfl⟩ : ∃ q, f = q + 1 := ⟨f - 1, by omega⟩
    obtain ⟨f2, rfl⟩ : ∃ q, f2 = q + 1 := ⟨f2 - 1, by omega⟩
    refine ⟨s, ?_, ?_⟩
    · show zf_Sea_countLand_l0_b gl (zf_Sea_countLand_l0 gl f) s y = _
      unfold zf_Sea_countLand_l0_b
      rw [if_neg (by omega)]
    · show zf_M_landMany_l0_b m (zf_M_landMany_l0 m f2) s (24 * y) = _
      unfold zf_M_landMany_l0_b
      rw [if_neg (by omega)]
  | succ d ih =>
    intro y s f f2 e y0 s0 s1 hf hf2
    obtain ⟨f, rfl⟩ : ∃ q, f = q + 1 := ⟨f - 1, by omega⟩
    obtain ⟨f2, rfl⟩ : ∃ q, f2 = q + 24 := ⟨f2 - 24, by omega⟩
    have b := zs_sum_in (t := gl y) 24
    have hy := z.1.2.2.2.2.1 y y0 (by omega)
    obtain ⟨a, e1, e2⟩ := ih (y + 1) (s + zs_sum (gl y) 24) f f2 (by omega) (by omega) (by omega) (by omega) (by omega) (by omega)
    refine ⟨a, ?_, ?_⟩
    · show zf_Sea_countLand_l0_b gl (zf_Sea_countLand_l0 gl f) s y = _
      unfold zf_Sea_countLand_l0_b
      rw [if_pos (by omega), zl_ci y0 (by omega), ze_bitCount hy.1 (by omega), zl_b, zi_w_id (x := s + zs_sum (gl y) 24) (by omega) (by omega), zi_w_id (x := y + 1) (by omega) (by omega), e1]
    · have r := yc_row z y0 (by omega : y < 12) s0 (by omega) 24 0 f2 rfl
      rw [show s + zs_sum (gl y) 0 = s from Int.add_zero s, show 24 * y + ((0 : Nat) : Int) = 24 * y by omega] at r
      rw [r, show 24 * y + 24 = 24 * (y + 1) by omega, e2]
theorem yc_land (z : yk_sea ts gp gl m) : ∃ a, zf_Sea_countLand gl = some a ∧ zf_M_landMany m = some a := by
  obtain ⟨a, e1, e2⟩ := yc_land_l z 12 0 0 zi_fu zi_fu (by decide) (by decide) (by decide) (by decide) (by decide) (by decide)
  refine ⟨a, ?_, ?_⟩
  · unfold zf_Sea_countLand
    rw [e1]; rfl
  · unfold zf_M_landMany
    rw [show zf_M_landMany_l0 m zi_fu 0 0 = _ from e2]; rfl
theorem yo_count (k : yk_sky t h u cl sc sr ch co ro br wc wr m) (z : yk_sea ts gp gl m) {n nc tl sz : Int} : ∃ a b, zf_X_count n h u cl t ts nc tl sz ch sc sr gl gp = some a ∧ zf_M_count n nc tl sz m = some b ∧ (n ≠ 3 → a = b) := by
  obtain ⟨⟨ht, k126⟩, ⟨hk2, k128⟩, k129, ⟨hk4, k130⟩, ⟨hk5, k131⟩, ⟨hk6, k132⟩, ⟨hk7, k133⟩, -⟩ := k
  obtain ⟨⟨t1, t2, e127, hs, -⟩, -⟩ := id z
  unfold zf_X_count zf_M_count
  rw [k128, k129, k130, k126, e127, k133, k131, k132]
  by_cases q0 : n = 0
  · rw [if_pos q0, if_pos q0]; exact ⟨_, _, rfl, rfl, fun _ => rfl⟩
  rw [if_neg q0, if_neg q0]
  by_cases q1 : n = 1
  · rw [if_pos q1, if_pos q1]; exact ⟨_, _, rfl, rfl, fun _ => rfl⟩
  rw [if_neg q1, if_neg q1]
  by_cases q2 : n = 2
  · rw [if_pos q2, if_pos q2]; exact ⟨_, _, rfl, rfl, fun _ => rfl⟩
  rw [if_neg q2, if_neg q2]
  by_cases q3 : n = 3
  · rw [if_pos q3, if_pos q3, ze_bitCount ht.1 (by have := ht.2; omega), zl_b]; exact ⟨_, _, rfl, rfl, fun c => absurd q3 c⟩
  rw [if_neg q3, if_neg q3]
  by_cases q4 : n = 4
  · rw [if_pos q4, if_pos q4]; exact ⟨_, _, rfl, rfl, fun _ => rfl⟩
  rw [if_neg q4, if_neg q4]
  by_cases q5 : n = 5
  · rw [if_pos q5, if_pos q5]; exact ⟨_, _, rfl, rfl, fun _ => rfl⟩
  rw [if_neg q5, if_neg q5]
  by_cases q6 : n = 6
  · rw [if_pos q6, if_pos q6]; exact ⟨_, _, rfl, rfl, fun _ => rfl⟩
  rw [if_neg q6, if_neg q6]
  by_cases q7 : n = 7
  · rw [if_pos q7, if_pos q7]; exact ⟨_, _, rfl, rfl, fun _ => rfl⟩
  rw [if_neg q7, if_neg q7]
  by_cases q8 : n = 8
  · rw [if_pos q8, if_pos q8]; exact ⟨_, _, rfl, rfl, fun _ => rfl⟩
  rw [if_neg q8, if_neg q8]
  by_cases q9 : n = 9
  · rw [if_pos q9, if_pos q9]; exact ⟨_, _, rfl, rfl, fun _ => rfl⟩
  rw [if_neg q9, if_neg q9]
  by_cases q10 : n = 10
  · obtain ⟨a, e1, e2⟩ := yc_land z
    rw [if_pos q10, if_pos q10, e1, e2]
    exact ⟨a, a, rfl, rfl, fun _ => rfl⟩
  rw [if_neg q10, if_neg q10, ze_X_isWithin, ze_M_in, zl_b, zl_b]
  by_cases q : zs_in n 20 25 = 0
  · rw [if_pos q, if_pos q]; exact ⟨_, _, rfl, rfl, fun _ => rfl⟩
  rw [if_neg q, if_neg q]
  obtain ⟨n1, n2⟩ := zs_in_ne q
  rw [zi_w_id (x := n - 20) (by omega) (by omega), zi_w_id (x := 120 + n) (by omega) (by omega), zi_w_id (x := 120 + n - 20) (by omega) (by omega), ze_Sea_hasShip t1 (by omega), zl_b, ze_M_isShip (by omega) (by omega), e127, zl_b]
  by_cases s : zs_has 6 ts (n - 20) = 0
  · rw [if_pos s, if_pos s]; exact ⟨_, _, rfl, rfl, fun _ => rfl⟩
  rw [if_neg s, if_neg s, zl_ci (by omega) (by omega), zl_ci (by omega) (by omega)]
  have := hs (n - 20) (by omega) (by omega)
  exact ⟨_, _, rfl, rfl, fun _ => by rw [← this, show 120 + (n - 20) = 120 + n - 20 by omega]⟩
end YCO
