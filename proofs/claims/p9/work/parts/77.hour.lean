/-! What hour, clouds, sight and seed do, on both sides. -/
theorem zl_set1 {n lo hi v k : Int} {m : Int → Int} : ∃ a v' m', ((some (zs_in n lo hi)).bind fun r1 => if r1 = 0 then some ((0 : Int), v) else some (1, n)) = some (a, v') ∧ ((some (zs_in n lo hi)).bind fun r1 => if r1 = 0 then some ((0 : Int), m) else some (1, zv_up m k n)) = some (a, m') ∧ (m k = v → m' k = v') ∧ (∀ j, j ≠ k → m' j = m j) ∧ (v' = v ∨ (v' = n ∧ lo ≤ n ∧ n ≤ hi)) := by
  rw [zl_b, zl_b]
  by_cases q : zs_in n lo hi = 0
  · rw [if_pos q, if_pos q]
    exact ⟨0, v, m, rfl, rfl, fun h => h, fun _ _ => rfl, Or.inl rfl⟩
  · rw [if_neg q, if_neg q]
    exact ⟨1, n, _, rfl, rfl, fun _ => zv_up_s, fun j hj => zv_up_n hj, Or.inr ⟨rfl, zs_in_ne q⟩⟩
theorem zl_hour {n v : Int} {m : Int → Int} : ∃ a v' m', zf_X_hour n v = some (a, v') ∧ zf_M_hour n m = some (a, m') ∧ (m 128 = v → m' 128 = v') ∧ (∀ j, j ≠ 128 → m' j = m j) ∧ (v' = v ∨ (v' = n ∧ 0 ≤ n ∧ n ≤ 23)) := by
  unfold zf_X_hour zf_M_hour
  rw [ze_X_isWithin, ze_M_in]
  exact zl_set1
theorem zl_clouds {n v : Int} {m : Int → Int} : ∃ a v' m', zf_X_clouds n v = some (a, v') ∧ zf_M_clouds n m = some (a, m') ∧ (m 130 = v → m' 130 = v') ∧ (∀ j, j ≠ 130 → m' j = m j) ∧ (v' = v ∨ (v' = n ∧ 0 ≤ n ∧ n ≤ 16777215)) := by
  unfold zf_X_clouds zf_M_clouds
  rw [ze_X_isWithin, ze_M_in]
  exact zl_set1
theorem zl_seed {n v : Int} {m : Int → Int} : ∃ a v' m', zf_X_seed n v = some (a, v') ∧ zf_M_seed n m = some (a, m') ∧ (m 133 = v → m' 133 = v') ∧ (∀ j, j ≠ 133 → m' j = m j) ∧ (v' = v ∨ (v' = n ∧ 0 ≤ n ∧ n ≤ 65535)) := by
  unfold zf_X_seed zf_M_seed
  rw [ze_X_isWithin, ze_M_in]
  exact zl_set1
theorem zl_sight {n k v w : Int} {m : Int → Int} : ∃ a v' w' m', zf_X_sight n k v w = some (a, v', w') ∧ zf_M_sight n k m = some (a, m') ∧ (m 131 = v → m 132 = w → m' 131 = v' ∧ m' 132 = w') ∧ (∀ j, j ≠ 131 → j ≠ 132 → m' j = m j) ∧ ((v' = v ∧ w' = w) ∨ (v' = n ∧ w' = k ∧ 0 ≤ n ∧ n ≤ 11 ∧ 0 ≤ k ∧ k ≤ 11)) := by
  unfold zf_X_sight zf_M_sight
  rw [ze_X_isWithin, ze_M_in, zl_b, zl_b]
  by_cases q : zs_in n 0 11 = 0
  · rw [if_pos q, if_pos q]
    exact ⟨0, v, w, m, rfl, rfl, fun a b => ⟨a, b⟩, fun _ _ _ => rfl, Or.inl ⟨rfl, rfl⟩⟩
  rw [if_neg q, if_neg q, ze_X_isWithin, ze_M_in, zl_b, zl_b]
  obtain ⟨a1, a2⟩ := zs_in_ne q
  by_cases q2 : zs_in k 0 11 = 0
  · rw [if_pos q2, if_pos q2]
    exact ⟨0, v, w, m, rfl, rfl, fun a b => ⟨a, b⟩, fun _ _ _ => rfl, Or.inl ⟨rfl, rfl⟩⟩
  rw [if_neg q2, if_neg q2]
  obtain ⟨b1, b2⟩ := zs_in_ne q2
  exact ⟨1, n, k, _, rfl, rfl, fun _ _ => ⟨by rw [zv_up_n (by omega), zv_up_s], zv_up_s⟩, fun j h1 h2 => by rw [zv_up_n h2, zv_up_n h1], Or.inr ⟨rfl, rfl, a1, a2, b1, b2⟩⟩
