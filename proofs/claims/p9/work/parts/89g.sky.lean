/-! sky: alike on both sides. -/
section YSW
variable {L : zLW} {K V kd fr hf to C mk mf mh mt : Int → Int} {nc tS tL sP lP mc : Int} {t h u cl sc sr ch : Int} {co ro br wc wr m : Int → Int}
theorem yo_sky (R : yl_R L K V nc tS tL sP lP kd fr hf to mc C mk mf mh mt) (k : yk_sky t h u cl sc sr ch co ro br wc wr m) {x y a f3 f4 f5 f8 f14 f16 f1 f2 f33 : Int} {g0 g1 g9 g11 g12 g2 g6 g7 : Int → Int} :
    ∃ r f3' f4' f5' f8' f14' f16' g0' g1' g9' g11' g12' f1' f2' f33' g2' g6' g7', zf_X_sky x y a f3 f4 f5 h u f8 t sc sr cl tS f14 nc f16 sP tL lP g0 g1 co ro br kd hf to K g9 V g11 g12 = some (r, f3', f4', f5', f8', f14', f16', g0', g1', g9', g11', g12') ∧
      zf_M_sky x y a mc f1 f2 f33 m mk g2 mh mt C g6 g7 = some (r, f1', f2', f33', g2', g6', g7') := by
  unfold zf_X_sky zf_M_sky
  rw [ze_X_isPlace, ze_M_isPlace, zl_b, zl_b]
  by_cases q : zs_pl x y = 0
  · rw [if_pos q, if_pos q]
    exact ⟨-1, f3, f4, f5, f8, f14, f16, g0, g1, g9, g11, g12, f1, f2, f33, g2, g6, g7, rfl, rfl⟩
  rw [if_neg q, if_neg q, ze_X_isWithin, zl_b]
  obtain ⟨x1, x2, y1, y2⟩ := zs_pl_ne q
  obtain ⟨s2, g2', g6', J2, e2, i2, l2⟩ := ym_looks (f1 := f1) (g := g2) (S := g6) (J := g7) R k x1 (by omega : x ≤ 23) y1 (by omega : y ≤ 11)
  rw [zi_w_id (x := 24 * y) (by omega) (by omega), zi_w_id (x := 24 * y + x) (by omega) (by omega), e2, zl_b]
  dsimp only
  obtain ⟨f3', s', f14', f16', g0', g1', g9', J, g12', e1, i1, l1⟩ := yx_lad (f3 := f3) (f4 := f4) (f5 := f5) (f8 := f8) (f14 := f14) (f16 := f16) (g0 := g0) (g1 := g1) (g9 := g9) (g11 := g11) (g12 := g12) R k x1 (by omega : x ≤ 23) y1 (by omega : y ≤ 11)
  have es := yv_is_eq i1 i2
  subst es
  have hG : ∀ j : Nat, j < 24 → z24 (J j) := fun j hj => (l1 j hj).1
  have ej : ∀ j : Nat, j < 24 → J j = J2 j := fun j hj => yv_il_eq l1 l2 j (by omega) (by omega)
  obtain ⟨cf, mx, c1, c2, c3, cb⟩ := yo_figs (f0 := f2) (f1 := f33) hG ej i1.1
  obtain ⟨lg, d1, d2, d3, d4⟩ := yo_legs hG ej i1.1
  obtain ⟨ln, n1, n2, n3, n4⟩ := yo_lines hG ej
  obtain ⟨ho, H', h1, h2⟩ := yo_hold hG (yv_il_sym l1) ej
  rw [c3, zl_b, d2, zl_b]
  dsimp only
  by_cases w : zs_in a 0 6 = 0
  · rw [if_pos w]
    have hw : ¬ (0 ≤ a ∧ a ≤ 6) := fun hh => by
      unfold zs_in at w
      rw [if_pos hh] at w
      exact absurd w (by decide)
    rw [if_neg (show ¬ a = 0 by omega), if_neg (show ¬ a = 1 by omega), if_neg (show ¬ a = 2 by omega), if_neg (show ¬ a = 3 by omega), if_neg (show ¬ a = 4 by omega), if_neg (show ¬ a = 5 by omega), if_neg (show ¬ a = 6 by omega)]
    exact ⟨_, _, _, _, _, _, _, _, _, _, _, _, _, _, _, _, _, _, rfl, rfl⟩
  rw [if_neg w, e1, zl_b]
  dsimp only
  rw [n1, zl_b]
  obtain ⟨w1, w2⟩ := zs_in_ne w
  by_cases a0 : a = 0
  · rw [if_pos a0, if_pos a0, n2, zl_b]
    exact ⟨_, _, _, _, _, _, _, _, _, _, _, _, _, _, _, _, _, _, rfl, rfl⟩
  rw [if_neg a0, if_neg a0]
  by_cases a1 : a = 1
  · rw [if_pos a1, if_pos a1, c1, zl_b]
    exact ⟨_, _, _, _, _, _, _, _, _, _, _, _, _, _, _, _, _, _, rfl, rfl⟩
  rw [if_neg a1, if_neg a1]
  by_cases a2 : a = 2
  · rw [if_pos a2, if_pos a2, c2, zl_b]
    exact ⟨_, _, _, _, _, _, _, _, _, _, _, _, _, _, _, _, _, _, rfl, rfl⟩
  rw [if_neg a2, if_neg a2]
  by_cases a3 : a = 3
  · rw [if_pos a3, if_pos a3, ze_bc i1.1, zl_b, c1, zl_b, n2, zl_b, ze_mb i1.1, zl_b]
    exact ⟨_, _, _, _, _, _, _, _, _, _, _, _, _, _, _, _, _, _, rfl, rfl⟩
  rw [if_neg a3, if_neg a3]
  by_cases a4 : a = 4
  · rw [if_pos a4, if_pos a4, h1, zl_b, h2, zl_b]
    exact ⟨_, _, _, _, _, _, _, _, _, _, _, _, _, _, _, _, _, _, rfl, rfl⟩
  rw [if_neg a4, if_neg a4]
  by_cases a5 : a = 5
  · rw [if_pos a5, if_pos a5, d1, zl_b]
    exact ⟨_, _, _, _, _, _, _, _, _, _, _, _, _, _, _, _, _, _, rfl, rfl⟩
  rw [if_neg a5, if_neg a5, if_pos (show a = 6 by omega), d1, zl_b]
  unfold zf_View_legsOf
  by_cases b : lg = -1
  · rw [if_pos b, if_pos b, zl_b]
    exact ⟨_, _, _, _, _, _, _, _, _, _, _, _, _, _, _, _, _, _, rfl, rfl⟩
  have ez := hG lg.toNat (by omega)
  have eh := ej lg.toNat (by omega)
  rw [Int.toNat_of_nonneg (by omega)] at ez eh
  rw [if_neg b, if_neg b, zl_ci (show 0 ≤ lg by omega) (by omega), zl_ci (show 0 ≤ lg by omega) (by omega), ← eh, ze_bc ez, ze_mb ez, zl_b, zl_b, zl_b]
  exact ⟨_, _, _, _, _, _, _, _, _, _, _, _, _, _, _, _, _, _, rfl, rfl⟩
end YSW
