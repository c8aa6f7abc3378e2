/-! Land and ships: rows of bits against cells, ships' places; what land and ship do, on both sides. -/
theorem zl_b {α β : Type} {a : α} {f : α → Option β} : (some a).bind f = f a := rfl
theorem zl_c {α : Type} {b : Bool} {x : Option α} (h : b = true) : (cond b x none) = x := by rw [h]; rfl
/-- a row with one bit put -/
def zl_row (v x b : Int) : Int := if b = 0 then zi_and v (zi_xor (zi_shl 1 x) (-1)) else zi_or v (zi_shl 1 x)
theorem zl_row_tb {v x b j : Int} (h1 : 0 ≤ v) (h2 : v ≤ 16777215) (x1 : 0 ≤ x) (x2 : x < 24) (j1 : 0 ≤ j) (j2 : j < 24) : zi_tb (zl_row v x b) j = if j = x then decide (b ≠ 0) else zi_tb v j := by
  unfold zl_row
  by_cases hb : b = 0
  · rw [if_pos hb, (zi_clr h1 (by omega) x1 (by omega)).2.2 j j1 (by omega)]
    by_cases e : j = x
    · rw [if_pos e, e]; simp [hb]
    · rw [if_neg e, decide_eq_true e, Bool.and_true]
  · rw [if_neg hb, zi_set_tb h1 (by omega) x1 (by omega) j j1]
    by_cases e : j = x
    · rw [if_pos e, e]; simp [hb]
    · rw [if_neg e, decide_eq_false e, Bool.or_false]
theorem zl_row_in {v x b : Int} (h1 : 0 ≤ v) (h2 : v ≤ 16777215) (x1 : 0 ≤ x) (x2 : x < 24) : 0 ≤ zl_row v x b ∧ zl_row v x b ≤ 16777215 := by
  unfold zl_row
  split
  · have := zi_clr h1 (by omega : v ≤ 2147483647) x1 (by omega : x < 31)
    omega
  · rw [zi_set h1 (by omega) x1 (by omega)]
    have hx : 2 ^ x.toNat < 2 ^ 24 := Nat.pow_lt_pow_right (by decide) (by omega)
    have := Nat.or_lt_two_pow (n := 24) (show v.toNat < 2 ^ 24 by omega) hx
    omega
/-- a ship that is told stands there, from one on -/
def zl_from (t : Int) (g : Int → Int) (p k : Int) : Prop := ∃ s : Int, k ≤ s ∧ s < 6 ∧ zi_tb t s = true ∧ g s = p
theorem zl_from_s {t p k : Int} {g : Int → Int} (h : ¬ (zi_tb t k = true ∧ g k = p)) : zl_from t g p k ↔ zl_from t g p (k + 1) :=
  ⟨fun ⟨s, a, b, c, d⟩ => ⟨s, (by
    by_cases e : s = k
    · subst e; exact absurd ⟨c, d⟩ h
    · omega), b, c, d⟩, fun ⟨s, a, b, c, d⟩ => ⟨s, by omega, b, c, d⟩⟩
theorem ze_hasShipAt_l0 {t p : Int} {g : Int → Int} (h1 : 0 ≤ t) (h2 : t ≤ 2147483647) : ∀ (m k n : Nat), k + m = 6 → m < n → (zl_from t g p k → zf_Sea_hasShipAt_l0 p t g n (k : Int) = some (.inr 1)) ∧ (¬ zl_from t g p k → zf_Sea_hasShipAt_l0 p t g n (k : Int) = some (.inl ())) := by
  intro m
  induction m with
  | zero =>
    intro k n e hn
    obtain ⟨n, rfl⟩ : ∃ q, n = q + 1 := ⟨n - 1, by omega⟩
    have hno : ¬ zl_from t g p k := fun ⟨s, a, b, _⟩ => by omega
    refine ⟨fun h => absurd h hno, fun _ => ?_⟩
    show zf_Sea_hasShipAt_l0_b p t g (zf_Sea_hasShipAt_l0 p t g n) (k : Int) = _
    unfold zf_Sea_hasShipAt_l0_b
    rw [if_neg (by omega)]
  | succ m ih =>
    intro k n e hn
    obtain ⟨n, rfl⟩ : ∃ q, n = q + 1 := ⟨n - 1, by omega⟩
    have hi := ih (k + 1) n (by omega) (by omega)
    rw [show ((k + 1 : Nat) : Int) = (k : Int) + 1 by omega] at hi
    show (zl_from t g p k → zf_Sea_hasShipAt_l0_b p t g (zf_Sea_hasShipAt_l0 p t g n) (k : Int) = _) ∧ (¬ zl_from t g p k → zf_Sea_hasShipAt_l0_b p t g (zf_Sea_hasShipAt_l0 p t g n) (k : Int) = _)
    unfold zf_Sea_hasShipAt_l0_b
    rw [if_pos (by omega), ze_Sea_hasShip h1 h2, zl_b, zi_w_id (x := (k : Int) + 1) (by omega) (by omega), zl_c (zi_ix_of (by omega) (by omega))]
    by_cases hb : zi_tb t (k : Int) = true
    · rw [show zs_has 6 t (k : Int) = 1 from if_pos ⟨by omega, by omega, hb⟩, if_neg (by decide)]
      by_cases hp : g (k : Int) = p
      · rw [if_pos hp]
        exact ⟨fun _ => rfl, fun h => absurd ⟨(k : Int), Int.le_refl _, by omega, hb, hp⟩ h⟩
      · rw [if_neg hp, zl_from_s (fun h => hp h.2)]
        exact hi
    · rw [show zs_has 6 t (k : Int) = 0 from if_neg (fun h => hb h.2.2), if_pos rfl, zl_from_s (fun h => hb h.1)]
      exact hi
theorem ze_hasShipAt {t p : Int} {g : Int → Int} (h1 : 0 ≤ t) (h2 : t ≤ 2147483647) : (zl_from t g p 0 → zf_Sea_hasShipAt p t g = some 1) ∧ (¬ zl_from t g p 0 → zf_Sea_hasShipAt p t g = some 0) := by
  have h := ze_hasShipAt_l0 (p := p) (g := g) h1 h2 6 0 zi_fu rfl (by decide)
  unfold zf_Sea_hasShipAt
  exact ⟨fun k => by rw [show zf_Sea_hasShipAt_l0 p t g zi_fu 0 = _ from h.1 k]; rfl, fun k => by rw [show zf_Sea_hasShipAt_l0 p t g zi_fu 0 = _ from h.2 k]; rfl⟩
theorem ze_M_land_l0 {x y : Int} {g : Int → Int} (h1 : 0 ≤ g 127) (h2 : g 127 ≤ 2147483647) (x1 : 0 ≤ x) (x2 : x < 24) (y1 : 0 ≤ y) (y2 : y < 12) : ∀ (m k n : Nat), k + m = 6 → m < n → (zl_from (g 127) (fun s => g (120 + s)) (24 * y + x) k → zf_M_land_l0 x y g n (k : Int) = some (.inr (0, g))) ∧ (¬ zl_from (g 127) (fun s => g (120 + s)) (24 * y + x) k → zf_M_land_l0 x y g n (k : Int) = some (.inl ())) := by
  intro m
  induction m with
  | zero =>
    intro k n e hn
    obtain ⟨n, rfl⟩ : ∃ q, n = q + 1 := ⟨n - 1, by omega⟩
    have hno : ¬ zl_from (g 127) (fun s => g (120 + s)) (24 * y + x) k := fun ⟨s, a, b, _⟩ => by omega
    refine ⟨fun h => absurd h hno, fun _ => ?_⟩
    show zf_M_land_l0_b x y g (zf_M_land_l0 x y g n) (k : Int) = _
    unfold zf_M_land_l0_b
    rw [if_neg (by omega)]
  | succ m ih =>
    intro k n e hn
    obtain ⟨n, rfl⟩ : ∃ q, n = q + 1 := ⟨n - 1, by omega⟩
    have hi := ih (k + 1) n (by omega) (by omega)
    rw [show ((k + 1 : Nat) : Int) = (k : Int) + 1 by omega] at hi
    show (zl_from (g 127) (fun s => g (120 + s)) (24 * y + x) k → zf_M_land_l0_b x y g (zf_M_land_l0 x y g n) (k : Int) = _) ∧ (¬ zl_from (g 127) (fun s => g (120 + s)) (24 * y + x) k → zf_M_land_l0_b x y g (zf_M_land_l0 x y g n) (k : Int) = _)
    unfold zf_M_land_l0_b
    rw [if_pos (by omega), ze_M_isShip h1 h2, zl_b, zi_w_id (x := (k : Int) + 1) (by omega) (by omega), zi_w_id (x := 120 + (k : Int)) (by omega) (by omega), zi_w_id (x := 24 * y) (by omega) (by omega), zi_w_id (x := 24 * y + x) (by omega) (by omega), zl_c (zi_ix_of (by omega) (by omega))]
    by_cases hb : zi_tb (g 127) (k : Int) = true
    · rw [show zs_has 6 (g 127) (k : Int) = 1 from if_pos ⟨by omega, by omega, hb⟩, if_neg (by decide)]
      by_cases hp : g (120 + (k : Int)) = 24 * y + x
      · rw [if_pos hp]
        exact ⟨fun _ => rfl, fun h => absurd ⟨(k : Int), Int.le_refl _, by omega, hb, hp⟩ h⟩
      · rw [if_neg hp, zl_from_s (g := fun s => g (120 + s)) (fun h => hp h.2)]
        exact hi
    · rw [show zs_has 6 (g 127) (k : Int) = 0 from if_neg (fun h => hb h.2.2), if_pos rfl, zl_from_s (fun h => hb h.1)]
      exact hi
/-- class and reference: told ships, their places, the land -/
def zl_rel (t : Int) (gp gl m : Int → Int) : Prop := 0 ≤ t ∧ t ≤ 63 ∧ m 127 = t ∧ (∀ s, 0 ≤ s → s < 6 → m (120 + s) = gp s) ∧ (∀ y, 0 ≤ y → y < 12 → 0 ≤ gl y ∧ gl y ≤ 16777215) ∧
  ∀ x y, 0 ≤ x → x < 24 → 0 ≤ y → y < 12 → m (134 + (24 * y + x)) = if zi_tb (gl y) x = true then 1 else 0
theorem zl_from_eq {t p : Int} {gp gl m : Int → Int} (h : zl_rel t gp gl m) : zl_from (m 127) (fun s => m (120 + s)) p 0 ↔ zl_from t gp p 0 := by
  obtain ⟨-, -, e, hs, -⟩ := h
  rw [e]
  exact ⟨fun ⟨s, a, b, c, d⟩ => ⟨s, a, b, c, by rw [← hs s a b]; exact d⟩, fun ⟨s, a, b, c, d⟩ => ⟨s, a, b, c, (hs s a b).trans d⟩⟩
theorem ze_setLand {x y b : Int} {g : Int → Int} (y1 : 0 ≤ y) (y2 : y < 12) : zf_Sea_setLand x y b g = some (zv_up g y (zl_row (g y) x b)) := by
  unfold zf_Sea_setLand zl_row
  by_cases hb : b = 0
  · rw [if_pos hb, if_pos hb, zl_c (zi_ix_of y1 y2)]
  · rw [if_neg hb, if_neg hb, zl_c (zi_ix_of y1 y2)]
theorem zl_land {x y b t : Int} {gp gl m : Int → Int} (h : zl_rel t gp gl m) : ∃ a gl' m', zf_X_land x y b t gp gl = some (a, gl') ∧ zf_M_land x y b m = some (a, m') ∧ zl_rel t gp gl' m' ∧ (∀ j, j < 134 → m' j = m j) := by
  have hf := fun p => zl_from_eq (p := p) h
  obtain ⟨t1, t2, e, hs, hr, hl⟩ := id h
  unfold zf_X_land zf_M_land
  rw [ze_X_isPlace, ze_M_isPlace, zl_b, zl_b]
  by_cases hp : zs_pl x y = 0
  · rw [if_pos hp, if_pos hp]
    exact ⟨0, gl, m, rfl, rfl, h, fun _ _ => rfl⟩
  · rw [if_neg hp, if_neg hp]
    obtain ⟨x1, x2, y1, y2⟩ := zs_pl_ne hp
    rw [ze_X_placeOf x1 x2 y1 y2, zl_b]
    have hX := ze_hasShipAt (p := 24 * y + x) (g := gp) t1 (by omega)
    have hM := ze_M_land_l0 (x := x) (y := y) (g := m) (by omega) (by omega) x1 x2 y1 y2 6 0 zi_fu rfl (by decide)
    by_cases hc : zl_from t gp (24 * y + x) 0
    · rw [hX.1 hc, show zf_M_land_l0 x y m zi_fu 0 = _ from hM.1 ((hf _).mpr hc), zl_b, zl_b, if_neg (by decide)]
      exact ⟨0, gl, m, rfl, rfl, h, fun _ _ => rfl⟩
    · rw [hX.2 hc, show zf_M_land_l0 x y m zi_fu 0 = _ from hM.2 (fun k => hc ((hf _).mp k)), zl_b, zl_b, if_pos rfl, ze_setLand y1 y2, zl_b]
      refine ⟨1, _, zv_up m (134 + (24 * y + x)) (if b = 0 then 0 else 1), rfl, ?_, ⟨t1, t2, ?_, ?_, ?_, ?_⟩, ?_⟩
      · show (if b = 0 then _ else _) = _
        rw [zi_w_id (x := 24 * y) (by omega) (by omega), zi_w_id (x := 134 + 24 * y) (by omega) (by omega), zi_w_id (x := 134 + 24 * y + x) (by omega) (by omega), show 134 + 24 * y + x = 134 + (24 * y + x) by omega, zl_c (zi_ix_of (by omega) (by omega)), zl_c (zi_ix_of (by omega) (by omega))]
        by_cases hb : b = 0
        · rw [if_pos hb, if_pos hb]
        · rw [if_neg hb, if_neg hb]
      · rw [zv_up_n (by omega)]; exact e
      · intro s s1 s2
        rw [zv_up_n (by omega)]; exact hs s s1 s2
      · intro y' a1 a2
        by_cases ey : y' = y
        · rw [ey, zv_up_s]; exact zl_row_in (hr y y1 y2).1 (hr y y1 y2).2 x1 x2
        · rw [zv_up_n ey]; exact hr y' a1 a2
      · intro x' y' a1 a2 b1 b2
        by_cases ey : y' = y
        · subst ey
          rw [zv_up_s, zl_row_tb (hr y' y1 y2).1 (hr y' y1 y2).2 x1 x2 a1 a2]
          by_cases ex : x' = x
          · subst ex
            rw [zv_up_s, if_pos rfl]
            by_cases hb : b = 0
            · rw [if_pos hb]; simp [hb]
            · rw [if_neg hb]; simp [hb]
          · rw [zv_up_n (by omega), if_neg ex]; exact hl x' y' a1 a2 b1 b2
        · rw [zv_up_n ey, zv_up_n (by omega)]; exact hl x' y' a1 a2 b1 b2
      · intro j hj
        exact zv_up_n (by omega)
