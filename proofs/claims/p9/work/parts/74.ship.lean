/-! What ship does, on both sides; what is land. -/
theorem ze_Sea_isLand {p : Int} {g : Int → Int} (h1 : 0 ≤ p) (h2 : p < 288) (hr : ∀ y, 0 ≤ y → y < 12 → 0 ≤ g y ∧ g y ≤ 16777215) : zf_Sea_isLand p g = some (if zi_tb (g (p / 24)) (p % 24) = true then 1 else 0) := by
  have hq := hr (p / 24) (by omega) (by omega)
  unfold zf_Sea_isLand
  rw [ze_X_rowOf h1 h2, zl_b, zl_c (zi_ix_of (by omega) (by omega)), ze_X_columnOf h1 h2, zl_b]
  obtain ⟨c1, c2⟩ := zs_b01 (t := g (p / 24)) (i := p % 24) hq.1 (by omega) (by omega) (by omega)
  by_cases c : zi_tb (g (p / 24)) (p % 24) = true
  · rw [c1 c, if_neg (by decide), if_pos c]
  · rw [c2 c, if_pos rfl, if_neg c]
theorem ze_M_isLand {p : Int} {m : Int → Int} (h1 : 0 ≤ p) (h2 : p < 288) : zf_M_isLand p m = some (if m (134 + p) = 1 then 1 else 0) := by
  unfold zf_M_isLand
  rw [zi_w_id (x := 134 + p) (by omega) (by omega), zl_c (zi_ix_of (by omega) (by omega))]
  by_cases c : m (134 + p) = 1
  · rw [if_pos c, if_pos c]
  · rw [if_neg c, if_neg c]
theorem zl_is {p t : Int} {gp gl m : Int → Int} (h : zl_rel t gp gl m) (h1 : 0 ≤ p) (h2 : p < 288) : zf_M_isLand p m = zf_Sea_isLand p gl := by
  obtain ⟨-, -, -, -, hr, hl⟩ := h
  rw [ze_M_isLand h1 h2, ze_Sea_isLand h1 h2 hr]
  have := hl (p % 24) (p / 24) (by omega) (by omega) (by omega) (by omega)
  rw [show 134 + (24 * (p / 24) + p % 24) = 134 + p by omega] at this
  rw [this]
  by_cases c : zi_tb (gl (p / 24)) (p % 24) = true
  · rw [if_pos c]; rfl
  · rw [if_neg c]; rfl
theorem zl_or_in {t i : Int} (h1 : 0 ≤ t) (h2 : t ≤ 63) (k1 : 0 ≤ i) (k2 : i < 6) : 0 ≤ zi_or t (zi_shl 1 i) ∧ zi_or t (zi_shl 1 i) ≤ 63 := by
  rw [zi_set h1 (by omega) k1 (by omega)]
  have hx : 2 ^ i.toNat < 2 ^ 6 := Nat.pow_lt_pow_right (by decide) (by omega)
  have := Nat.or_lt_two_pow (n := 6) (show t.toNat < 2 ^ 6 by omega) hx
  omega
theorem zl_ship {s x y t : Int} {gp gl m : Int → Int} (h : zl_rel t gp gl m) : ∃ a t' gp' m', zf_X_ship s x y t gl gp = some (a, t', gp') ∧ zf_M_ship s x y m = some (a, m') ∧ zl_rel t' gp' gl m' ∧ (∀ j, j < 120 → m' j = m j) ∧ ∀ j, 128 ≤ j → m' j = m j := by
  obtain ⟨t1, t2, e, hs, hr, hl⟩ := id h
  unfold zf_X_ship zf_M_ship
  rw [ze_X_isWithin, ze_M_in, zl_b, zl_b]
  by_cases hi : zs_in s 0 5 = 0
  · rw [if_pos hi, if_pos hi]
    exact ⟨0, t, gp, m, rfl, rfl, h, fun _ _ => rfl, fun _ _ => rfl⟩
  · rw [if_neg hi, if_neg hi]
    obtain ⟨s1, s2⟩ := zs_in_ne hi
    rw [ze_X_isPlace, ze_M_isPlace, zl_b, zl_b]
    by_cases hp : zs_pl x y = 0
    · rw [if_pos hp, if_pos hp]
      exact ⟨0, t, gp, m, rfl, rfl, h, fun _ _ => rfl, fun _ _ => rfl⟩
    · rw [if_neg hp, if_neg hp]
      obtain ⟨x1, x2, y1, y2⟩ := zs_pl_ne hp
      rw [ze_X_placeOf x1 x2 y1 y2, zl_b, zl_b, zi_w_id (x := 24 * y) (by omega) (by omega), zi_w_id (x := 24 * y + x) (by omega) (by omega), zl_is h (by omega) (by omega), ze_Sea_isLand (by omega) (by omega) hr, zl_b, zl_b]
      by_cases c : zi_tb (gl ((24 * y + x) / 24)) ((24 * y + x) % 24) = true
      · rw [if_pos c, if_neg (by decide), if_neg (by decide)]
        exact ⟨0, t, gp, m, rfl, rfl, h, fun _ _ => rfl, fun _ _ => rfl⟩
      · rw [if_neg c, if_pos rfl, if_pos rfl, zi_w_id (x := 120 + s) (by omega) (by omega), zl_c (zi_ix_of (by omega) (by omega)), zl_c (zi_ix_of (by omega) (by omega))]
        obtain ⟨o1, o2⟩ := zl_or_in t1 t2 s1 (by omega : s < 6)
        refine ⟨1, _, _, _, rfl, rfl, ⟨o1, o2, ?_, ?_, hr, ?_⟩, ?_, ?_⟩
        · rw [zv_up_n (by omega), zv_up_s, e]
        · intro k k1 k2
          by_cases ek : k = s
          · subst ek; rw [zv_up_s, zv_up_s]
          · rw [zv_up_n (by omega), zv_up_n (by omega), zv_up_n ek]; exact hs k k1 k2
        · intro x' y' a1 a2 b1 b2
          rw [zv_up_n (by omega), zv_up_n (by omega)]; exact hl x' y' a1 a2 b1 b2
        · intro j hj
          rw [zv_up_n (by omega), zv_up_n (by omega)]
        · intro j hj
          rw [zv_up_n (by omega), zv_up_n (by omega)]
