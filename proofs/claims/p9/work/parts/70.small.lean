/-! What the small functions come to. -/
def zs_in (n a b : Int) : Int := if a ≤ n ∧ n ≤ b then 1 else 0
def zs_pl (x y : Int) : Int := if 0 ≤ x ∧ x < 24 ∧ 0 ≤ y ∧ y < 12 then 1 else 0
/-- told, of so many -/
def zs_has (m t i : Int) : Int := if 0 ≤ i ∧ i < m ∧ zi_tb t i = true then 1 else 0
theorem zs_in01 {n a b : Int} : zs_in n a b = 0 ∨ zs_in n a b = 1 := by unfold zs_in; split <;> simp
theorem zs_pl01 {x y : Int} : zs_pl x y = 0 ∨ zs_pl x y = 1 := by unfold zs_pl; split <;> simp
theorem zs_has01 {m t i : Int} : zs_has m t i = 0 ∨ zs_has m t i = 1 := by unfold zs_has; split <;> simp
theorem zs_in_ne {n a b : Int} (h : ¬ zs_in n a b = 0) : a ≤ n ∧ n ≤ b := by
  unfold zs_in at h
  split at h
  · assumption
  · exact absurd rfl h
theorem zs_pl_ne {x y : Int} (h : ¬ zs_pl x y = 0) : 0 ≤ x ∧ x < 24 ∧ 0 ≤ y ∧ y < 12 := by
  unfold zs_pl at h
  split at h
  · assumption
  · exact absurd rfl h
theorem zs_has_ne {m t i : Int} (h : ¬ zs_has m t i = 0) : 0 ≤ i ∧ i < m ∧ zi_tb t i = true := by
  unfold zs_has at h
  split at h
  · assumption
  · exact absurd rfl h
theorem ze_X_isWithin {n a b : Int} : zf_X_isWithin n a b = some (zs_in n a b) := by
  unfold zf_X_isWithin zs_in
  split
  · rw [if_neg (by omega)]
  · split
    · rw [if_neg (by omega)]
    · rw [if_pos (by omega)]
theorem ze_M_in {n a b : Int} : zf_M_in n a b = some (zs_in n a b) := by
  unfold zf_M_in zs_in
  split
  · rw [if_neg (by omega)]
  · split
    · rw [if_neg (by omega)]
    · rw [if_pos (by omega)]
theorem ze_X_isPlace {x y : Int} : zf_X_isPlace x y = some (zs_pl x y) := by
  unfold zf_X_isPlace zs_pl
  (repeat' split) <;> first | rfl | (exfalso; omega)
theorem ze_M_isPlace {x y : Int} : zf_M_isPlace x y = some (zs_pl x y) := by
  unfold zf_M_isPlace zs_pl
  (repeat' split) <;> first | rfl | (exfalso; omega)
theorem zs_b01 {t i : Int} (h1 : 0 ≤ t) (h2 : t ≤ 2147483647) (k1 : 0 ≤ i) (k2 : i < 32) : (zi_tb t i = true → zi_and (zi_shr t i) 1 = 1) ∧ (¬ zi_tb t i = true → zi_and (zi_shr t i) 1 = 0) := by
  rw [zi_bit h1 h2 k1 k2]
  exact ⟨fun h => if_pos h, fun h => if_neg h⟩
theorem ze_Sky_hasStar {i t : Int} (h1 : 0 ≤ t) (h2 : t ≤ 2147483647) : zf_Sky_hasStar i t = some (zs_has 24 t i) := by
  unfold zf_Sky_hasStar zs_has
  by_cases a : i < 0
  · rw [if_pos a, if_neg (by omega)]
  · rw [if_neg a]
    by_cases b : i < 24
    · rw [if_pos b]
      obtain ⟨c1, c2⟩ := zs_b01 h1 h2 (i := i) (by omega) (by omega)
      by_cases c : zi_tb t i = true
      · rw [c1 c, if_neg (by decide), if_pos ⟨by omega, b, c⟩]
      · rw [c2 c, if_pos rfl, if_neg (fun h => c h.2.2)]
    · rw [if_neg b, if_neg (by omega)]
theorem ze_Sea_hasShip {i t : Int} (h1 : 0 ≤ t) (h2 : t ≤ 2147483647) : zf_Sea_hasShip i t = some (zs_has 6 t i) := by
  unfold zf_Sea_hasShip zs_has
  by_cases a : i < 0
  · rw [if_pos a, if_neg (by omega)]
  · rw [if_neg a]
    by_cases b : i < 6
    · rw [if_pos b]
      obtain ⟨c1, c2⟩ := zs_b01 h1 h2 (i := i) (by omega) (by omega)
      by_cases c : zi_tb t i = true
      · rw [c1 c, if_neg (by decide), if_pos ⟨by omega, b, c⟩]
      · rw [c2 c, if_pos rfl, if_neg (fun h => c h.2.2)]
    · rw [if_neg b, if_neg (by omega)]
theorem ze_M_has {t i : Int} (h1 : 0 ≤ t) (h2 : t ≤ 2147483647) (k1 : 0 ≤ i) (k2 : i < 32) : zf_M_has t i = some (if zi_tb t i = true then 1 else 0) := by
  unfold zf_M_has
  obtain ⟨c1, c2⟩ := zs_b01 h1 h2 k1 k2
  by_cases c : zi_tb t i = true
  · rw [c1 c, if_pos rfl, if_pos c]
  · rw [c2 c, if_neg (by decide), if_neg c]
theorem ze_M_isTold {i : Int} {g : Int → Int} (h1 : 0 ≤ g 126) (h2 : g 126 ≤ 2147483647) : zf_M_isTold i g = some (zs_has 24 (g 126) i) := by
  unfold zf_M_isTold zs_has
  by_cases a : i < 0
  · rw [if_pos a, if_neg (by omega)]
  · rw [if_neg a]
    by_cases b : i < 24
    · rw [if_pos b, ze_M_has h1 h2 (by omega) (by omega)]
      by_cases c : zi_tb (g 126) i = true
      · rw [if_pos c, if_pos ⟨by omega, b, c⟩]; rfl
      · rw [if_neg c, if_neg (fun h => c h.2.2)]; rfl
    · rw [if_neg b, if_neg (by omega)]
theorem ze_M_isShip {i : Int} {g : Int → Int} (h1 : 0 ≤ g 127) (h2 : g 127 ≤ 2147483647) : zf_M_isShip i g = some (zs_has 6 (g 127) i) := by
  unfold zf_M_isShip zs_has
  by_cases a : i < 0
  · rw [if_pos a, if_neg (by omega)]
  · rw [if_neg a]
    by_cases b : i < 6
    · rw [if_pos b, ze_M_has h1 h2 (by omega) (by omega)]
      by_cases c : zi_tb (g 127) i = true
      · rw [if_pos c, if_pos ⟨by omega, b, c⟩]; rfl
      · rw [if_neg c, if_neg (fun h => c h.2.2)]; rfl
    · rw [if_neg b, if_neg (by omega)]
theorem ze_X_placeOf {x y : Int} (h1 : 0 ≤ x) (h2 : x < 24) (k1 : 0 ≤ y) (k2 : y < 12) : zf_X_placeOf x y = some (24 * y + x) := by
  unfold zf_X_placeOf
  rw [zi_w_id (x := 24 * y) (by omega) (by omega), zi_w_id (by omega) (by omega)]
theorem ze_X_rowOf {p : Int} (h1 : 0 ≤ p) (h2 : p < 288) : zf_X_rowOf p = some (p / 24) := by
  unfold zf_X_rowOf
  rw [zi_div_eq h1 (by omega) (by decide) (by decide)]
theorem ze_X_columnOf {p : Int} (h1 : 0 ≤ p) (h2 : p < 288) : zf_X_columnOf p = some (p % 24) := by
  unfold zf_X_columnOf
  rw [zi_rem_eq h1 (by omega) (by decide) (by decide)]
theorem ze_Sky_standing {i h : Int} {g : Int → Int} (h1 : 0 ≤ i) (h2 : i < 24) (k1 : 0 ≤ g i) (k2 : g i ≤ 23) (q1 : 0 ≤ h) (q2 : h ≤ 23) : zf_Sky_standing i h g = some ((g i + h) % 24) := by
  unfold zf_Sky_standing
  rw [zi_ix_of h1 (by omega), zi_w_id (by omega) (by omega), zi_rem_eq (by omega) (by omega) (by decide) (by decide)]
  rfl
theorem ze_M_standsAt {i : Int} {g : Int → Int} (h1 : 0 ≤ i) (h2 : i < 24) (k1 : 0 ≤ g i) (k2 : g i ≤ 23) (q1 : 0 ≤ g 128) (q2 : g 128 ≤ 23) : zf_M_standsAt i g = some ((g i + g 128) % 24) := by
  unfold zf_M_standsAt
  rw [zi_w_id (x := 0 + i) (by omega) (by omega), Int.zero_add, zi_ix_of h1 (by omega), zi_w_id (by omega) (by omega), zi_rem_eq (by omega) (by omega) (by decide) (by decide)]
  rfl
theorem ze_Math_min {a b : Int} : zf_Math_min a b = some (if b < a then b else a) := by
  unfold zf_Math_min
  split <;> rfl
theorem ze_Math_max {a b : Int} : zf_Math_max a b = some (if a < b then b else a) := by
  unfold zf_Math_max
  split <;> rfl
theorem ze_M_max {a b : Int} : zf_M_max a b = some (if b < a then a else b) := by
  unfold zf_M_max
  split <;> rfl
theorem ze_Math_abs {a : Int} (h1 : -2147483647 ≤ a) (h2 : a ≤ 2147483647) : zf_Math_abs a = some (if a < 0 then -a else a) := by
  unfold zf_Math_abs
  split
  · rw [zi_w_id (by omega) (by omega)]
  · rfl
theorem ze_M_size {a : Int} (h1 : -2147483647 ≤ a) (h2 : a ≤ 2147483647) : zf_M_size a = some (if a < 0 then -a else a) := by
  unfold zf_M_size
  split
  · rw [zi_w_id (by omega) (by omega)]
  · rfl
theorem ze_M_sign {a : Int} : zf_M_sign a = some (if 0 < a then 1 else if a < 0 then -1 else 0) := by
  unfold zf_M_sign
  (repeat' split) <;> rfl
theorem ze_M_held {a b : Int} : zf_M_held a b = some (if a < 0 then 0 else if b < a then b else a) := by
  unfold zf_M_held
  (repeat' split) <;> rfl
/-- to the right, by the shorter way -/
def zs_right (a b : Int) : Int := if 12 < (b - a + 24) % 24 then (b - a + 24) % 24 - 24 else (b - a + 24) % 24
theorem ze_M_toRight {a b : Int} (h1 : 0 ≤ a) (h2 : a < 24) (k1 : 0 ≤ b) (k2 : b < 24) : zf_M_toRight a b = some (zs_right a b) := by
  unfold zf_M_toRight zs_right
  have e1 : zi_w (b - a) = b - a := zi_w_id (by omega) (by omega)
  have e2 : zi_w (b - a + 24) = b - a + 24 := zi_w_id (by omega) (by omega)
  have e3 : zi_rem (b - a + 24) 24 = (b - a + 24) % 24 := zi_rem_eq (by omega) (by omega) (by decide) (by decide)
  rw [e1, e2, e3]
  have : 0 ≤ (b - a + 24) % 24 ∧ (b - a + 24) % 24 < 24 := ⟨Int.emod_nonneg _ (by decide), Int.emod_lt_of_pos _ (by decide)⟩
  split
  · rw [zi_w_id (by omega) (by omega)]
  · rfl
/-- the class' way between columns is as far as the reference's -/
theorem ze_X_columnsBetween {a b : Int} (h1 : 0 ≤ a) (h2 : a < 24) (k1 : 0 ≤ b) (k2 : b < 24) : zf_X_columnsBetween a b = some (if zs_right b a < 0 then - zs_right b a else zs_right b a) := by
  unfold zf_X_columnsBetween
  rw [zi_w_id (x := a - b) (by omega) (by omega), ze_Math_abs (by omega) (by omega)]
  show (zf_Math_min _ _).bind _ = _
  rw [ze_Math_min]
  show some _ = _
  unfold zs_right
  congr 1
  by_cases hb : a - b < 0
  · rw [if_pos hb, zi_w_id (by omega) (by omega)]
    (repeat' split) <;> omega
  · rw [if_neg hb, zi_w_id (by omega) (by omega)]
    (repeat' split) <;> omega
/-- how many of the lowest bits are set -/
def zs_sum (t : Int) : Nat → Int
  | 0 => 0
  | n + 1 => zs_sum t n + (if zi_tb t (n : Int) = true then 1 else 0)
theorem zs_sum_in {t : Int} : ∀ n : Nat, 0 ≤ zs_sum t n ∧ zs_sum t n ≤ n
  | 0 => ⟨Int.le_refl _, Int.le_refl _⟩
  | n + 1 => by
    have := zs_sum_in (t := t) n
    unfold zs_sum
    split <;> omega
theorem ze_M_bits_l0 {t : Int} (h1 : 0 ≤ t) (h2 : t ≤ 2147483647) : ∀ (m k n : Nat), k + m = 24 → m < n → zf_M_bits_l0 t n (zs_sum t k) (k : Int) = some (zs_sum t 24) := by
  intro m
  induction m with
  | zero =>
    intro k n e hn
    obtain ⟨n, rfl⟩ : ∃ q, n = q + 1 := ⟨n - 1, by omega⟩
    show zf_M_bits_l0_b t (zf_M_bits_l0 t n) (zs_sum t k) (k : Int) = _
    unfold zf_M_bits_l0_b
    have ek : k = 24 := by omega
    subst ek
    rfl
  | succ m ih =>
    intro k n e hn
    obtain ⟨n, rfl⟩ : ∃ q, n = q + 1 := ⟨n - 1, by omega⟩
    show zf_M_bits_l0_b t (zf_M_bits_l0 t n) (zs_sum t k) (k : Int) = _
    unfold zf_M_bits_l0_b
    have hs := zs_sum_in (t := t) k
    rw [if_pos (by omega), zi_bit h1 h2 (by omega) (by omega), zi_w_id (x := (k : Int) + 1) (by omega) (by omega)]
    have e1 : zi_w (zs_sum t k + (if zi_tb t (k : Int) = true then 1 else 0)) = zs_sum t (k + 1) := by
      show _ = zs_sum t k + (if zi_tb t (k : Int) = true then 1 else 0)
      exact zi_w_id (by split <;> omega) (by split <;> omega)
    rw [e1]
    exact ih (k + 1) n (by omega) (by omega)
theorem ze_M_bits {t : Int} (h1 : 0 ≤ t) (h2 : t ≤ 2147483647) : zf_M_bits t = some (zs_sum t 24) := by
  unfold zf_M_bits
  have := ze_M_bits_l0 h1 h2 24 0 zi_fu rfl (by decide)
  rw [show zf_M_bits_l0 t zi_fu 0 0 = some (zs_sum t 24) from this]
  rfl
