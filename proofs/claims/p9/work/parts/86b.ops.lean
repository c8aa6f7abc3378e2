/-! ship, land, seen, line, over, steered: alike on both sides. -/
section YOQ
variable {L : zLW} {K V kd fr hf to C mk mf mh mt : Int → Int} {nc tS tL sP lP mc : Int} {t h u cl sc sr ch ts : Int} {co ro br wc wr m gp gl : Int → Int}
theorem yo_ship {s x y : Int} (z : yk_sea ts gp gl m) : ∃ a t' gp' m', zf_X_ship s x y ts gl gp = some (a, t', gp') ∧ zf_M_ship s x y m = some (a, m') ∧ yk_sea t' gp' gl m' ∧ ∀ j, (j < 120 ∨ j = 126 ∨ 128 ≤ j) → m' j = m j := by
  obtain ⟨hz, hb⟩ := id z
  obtain ⟨t1, t2, e, hs, hr, hl⟩ := id hz
  unfold zf_X_ship zf_M_ship
  rw [ze_X_isWithin, ze_M_in, zl_b, zl_b]
  by_cases hi : zs_in s 0 5 = 0
  · rw [if_pos hi, if_pos hi]
    exact ⟨0, ts, gp, m, rfl, rfl, z, fun _ _ => rfl⟩
  rw [if_neg hi, if_neg hi]
  obtain ⟨s1, s2⟩ := zs_in_ne hi
  rw [ze_X_isPlace, ze_M_isPlace, zl_b, zl_b]
  by_cases hp : zs_pl x y = 0
  · rw [if_pos hp, if_pos hp]
    exact ⟨0, ts, gp, m, rfl, rfl, z, fun _ _ => rfl⟩
  rw [if_neg hp, if_neg hp]
  obtain ⟨x1, x2, y1, y2⟩ := zs_pl_ne hp
  rw [ze_X_placeOf x1 x2 y1 y2, zl_b, zl_b, zi_w_id (x := 24 * y) (by omega) (by omega), zi_w_id (x := 24 * y + x) (by omega) (by omega), zl_is hz (by omega) (by omega), ze_Sea_isLand (by omega) (by omega) hr, zl_b, zl_b]
  by_cases c : zi_tb (gl ((24 * y + x) / 24)) ((24 * y + x) % 24) = true
  · rw [if_pos c, if_neg (by decide), if_neg (by decide)]
    exact ⟨0, ts, gp, m, rfl, rfl, z, fun _ _ => rfl⟩
  rw [if_neg c, if_pos rfl, if_pos rfl, zi_w_id (x := 120 + s) (by omega) (by omega), zl_c (zi_ix_of (by omega) (by omega)), zl_c (zi_ix_of (by omega) (by omega))]
  obtain ⟨o1, o2⟩ := zl_or_in t1 t2 s1 (by omega : s < 6)
  refine ⟨1, _, _, _, rfl, rfl, ⟨⟨o1, o2, ?_, ?_, hr, ?_⟩, ?_⟩, ?_⟩
  · rw [zv_up_n (by omega), zv_up_s, e]
  · intro k k1 k2
    by_cases ek : k = s
    · subst ek; rw [zv_up_s, zv_up_s]
    · rw [zv_up_n (by omega), zv_up_n (by omega), zv_up_n ek]; exact hs k k1 k2
  · intro x' y' a1 a2 b1 b2
    rw [zv_up_n (by omega), zv_up_n (by omega)]; exact hl x' y' a1 a2 b1 b2
  · intro k k1 k2
    by_cases ek : k = s
    · subst ek; rw [zv_up_s]; omega
    · rw [zv_up_n ek]; exact hb k k1 k2
  · intro j hj
    rw [zv_up_n (by omega), zv_up_n (by omega)]
theorem yo_land {x y b : Int} (z : yk_sea ts gp gl m) : ∃ a gl' m', zf_X_land x y b ts gp gl = some (a, gl') ∧ zf_M_land x y b m = some (a, m') ∧ yk_sea ts gp gl' m' ∧ ∀ j, j < 134 → m' j = m j := by
  obtain ⟨a, gl', m', e1, e2, e3, e4⟩ := zl_land (x := x) (y := y) (b := b) z.1
  exact ⟨a, gl', m', e1, e2, ⟨e3, z.2⟩, e4⟩
theorem yo_seen (R : yl_R L K V nc tS tL sP lP kd fr hf to mc C mk mf mh mt) (k : yk_sky t h u cl sc sr ch co ro br wc wr m) {x y f3 f4 f5 f8 f14 f16 : Int} {g0 g1 g9 g2 g6 : Int → Int} :
    ∃ a f3' f4' f5' f8' f14' f16' g0' g1' g9' g2' g6', zf_X_seen x y f3 f4 f5 h u f8 t sc sr cl tS f14 nc f16 sP g0 g1 co ro br kd hf to K g9 V = some (a, f3', f4', f5', f8', f14', f16', g0', g1', g9') ∧ zf_M_seen x y mc m mk g2 mh mt C g6 = some (a, g2', g6') := by
  unfold zf_X_seen zf_M_seen
  rw [ze_X_isPlace, ze_M_isPlace, zl_b, zl_b]
  by_cases q : zs_pl x y = 0
  · rw [if_pos q, if_pos q]
    exact ⟨-1, f3, f4, f5, f8, f14, f16, g0, g1, g9, g2, g6, rfl, rfl⟩
  rw [if_neg q, if_neg q]
  obtain ⟨x1, x2, y1, y2⟩ := zs_pl_ne q
  obtain ⟨g0', e0, -⟩ := ze_open (f := f3) (g := g0)
  rw [e0, zl_b]
  dsimp only
  obtain ⟨s', as', ho', a', g', S', e1, i1, -⟩ := yx_look (f2 := f4) (f3 := f5) (f6 := f8) (f := f16) (g := g1) (S := g9) R k x1 (by omega) y1 (by omega) (yv_ca0 (ho := f14))
  obtain ⟨s2, g2', g6', e2, i2⟩ := ym_seenFrom (g := g2) (S := g6) R k x1 (by omega) y1 (by omega)
  rw [e1, zl_b, zi_w_id (x := 24 * y) (by omega) (by omega), zi_w_id (x := 24 * y + x) (by omega) (by omega), e2, zl_b]
  have es := yv_is_eq i1 i2
  subst es
  exact ⟨_, _, _, _, _, _, _, _, _, _, _, _, rfl, rfl⟩
theorem yv_cp0 {pa ph : Int → Int} (h0 : ∀ i, 0 ≤ i → i < 24 → pa i = 0) : yv_cp L lP h u co ro br pa ph := fun a b ha hb hq => by
  rw [h0 a (by omega) (by omega), zb_0] at hq
  cases hq
theorem yx_lad (R : yl_R L K V nc tS tL sP lP kd fr hf to mc C mk mf mh mt) (k : yk_sky t h u cl sc sr ch co ro br wc wr m) {x y f3 f4 f5 f8 f14 f16 : Int} {g0 g1 g9 g11 g12 : Int → Int} (x1 : 0 ≤ x) (x2 : x ≤ 23) (y1 : 0 ≤ y) (y2 : y ≤ 11) :
    ∃ f3' s' f14' f16' g0' g1' g9' J g12', zf_X_lookAndDraw x y f3 f4 f5 h u f8 t sc sr cl tS f14 nc f16 sP tL lP g0 g1 co ro br kd hf to K g9 V g11 g12 = some (f3', x, y, s', f14', f16', g0', g1', g9', J, g12') ∧ yv_is L tS t h u cl sc sr co ro br x y s' ∧ yv_il s' (yv_D L h u co ro br x y) J := by
  unfold zf_X_lookAndDraw
  obtain ⟨g0', e0, h0⟩ := ze_open (f := f3) (g := g0)
  rw [e0, zl_b]
  dsimp only
  obtain ⟨s', as', ho', a', g', S', e1, i1, -⟩ := yx_look (f2 := f4) (f3 := f5) (f6 := f8) (f := f16) (g := g1) (S := g9) R k x1 x2 y1 y2 (yv_ca0 (ho := f14))
  rw [e1, zl_b]
  dsimp only
  obtain ⟨f', J', g2, pa', ph', S2, e2, i2, -⟩ := yx_draw (s := s') (f := a') (J := g11) (g := g') (ph := g12) (S := S') (x := x) (y := y) R k (yv_cp0 h0)
  rw [e2, zl_b]
  exact ⟨_, _, _, _, _, _, _, _, _, rfl, i1, i2⟩
theorem yo_line (R : yl_R L K V nc tS tL sP lP kd fr hf to mc C mk mf mh mt) (k : yk_sky t h u cl sc sr ch co ro br wc wr m) {x y a b f4 f5 f6 f9 f14 f16 f1 : Int} {g0 g1 g9 g11 g12 g2 g6 g7 : Int → Int} :
    ∃ r f4' f5' f6' f9' f14' f16' g0' g1' g9' g11' g12' f1' g2' g6' g7', zf_X_line x y a b t f4 f5 f6 h u f9 sc sr cl tS f14 nc f16 sP tL lP g0 g1 co ro br kd hf to K g9 V g11 g12 = some (r, f4', f5', f6', f9', f14', f16', g0', g1', g9', g11', g12') ∧ zf_M_line x y a b mc f1 m mk g2 mh mt C g6 g7 = some (r, f1', g2', g6', g7') := by
  obtain ⟨⟨ht, k126⟩, -⟩ := id k
  have tin : 0 ≤ t ∧ t ≤ 2147483647 := ⟨ht.1, by have := ht.2; omega⟩
  unfold zf_X_line zf_M_line
  rw [ze_X_isPlace, ze_M_isPlace, zl_b, zl_b]
  by_cases q : zs_pl x y = 0
  · rw [if_pos q, if_pos q]
    exact ⟨-1, f4, f5, f6, f9, f14, f16, g0, g1, g9, g11, g12, f1, g2, g6, g7, rfl, rfl⟩
  rw [if_neg q, if_neg q, ze_Sky_hasStar tin.1 tin.2, ze_M_isTold (by rw [k126]; exact tin.1) (by rw [k126]; exact tin.2), k126, zl_b, zl_b]
  obtain ⟨x1, x2, y1, y2⟩ := zs_pl_ne q
  by_cases qa : zs_has 24 t a = 0
  · rw [if_pos qa, if_pos qa]
    exact ⟨-1, f4, f5, f6, f9, f14, f16, g0, g1, g9, g11, g12, f1, g2, g6, g7, rfl, rfl⟩
  rw [if_neg qa, if_neg qa, ze_Sky_hasStar tin.1 tin.2, ze_M_isTold (by rw [k126]; exact tin.1) (by rw [k126]; exact tin.2), k126, zl_b, zl_b]
  by_cases qb : zs_has 24 t b = 0
  · rw [if_pos qb, if_pos qb]
    exact ⟨-1, f4, f5, f6, f9, f14, f16, g0, g1, g9, g11, g12, f1, g2, g6, g7, rfl, rfl⟩
  rw [if_neg qb, if_neg qb]
  by_cases qe : a = b
  · rw [if_pos qe, if_pos qe]
    exact ⟨-1, f4, f5, f6, f9, f14, f16, g0, g1, g9, g11, g12, f1, g2, g6, g7, rfl, rfl⟩
  rw [if_neg qe, if_neg qe]
  obtain ⟨a1, a2, -⟩ := zs_has_ne qa
  obtain ⟨b1, b2, -⟩ := zs_has_ne qb
  obtain ⟨f3', s', f14', f16', g0', g1', g9', J, g12', e1, i1, l1⟩ := yx_lad (f3 := f4) (f4 := f5) (f5 := f6) (f8 := f9) (f14 := f14) (f16 := f16) (g0 := g0) (g1 := g1) (g9 := g9) (g11 := g11) (g12 := g12) R k x1 (by omega : x ≤ 23) y1 (by omega : y ≤ 11)
  obtain ⟨s2, g2', g6', J2, e2, i2, l2⟩ := ym_looks (f1 := f1) (g := g2) (S := g6) (J := g7) R k x1 (by omega) y1 (by omega)
  rw [e1, zl_b, zi_w_id (x := 24 * y) (by omega) (by omega), zi_w_id (x := 24 * y + x) (by omega) (by omega), e2, zl_b, zl_c (zi_ix_of a1 a2), zl_c (zi_ix_of a1 a2)]
  have es := yv_is_eq i1 i2
  subst es
  have ej : J a = J2 a := yv_il_eq l1 l2 a a1 a2
  dsimp only
  rw [← ej]
  have hz : z24 (J a) := by
    have := (l1 a.toNat (by omega)).1
    rwa [Int.toNat_of_nonneg a1] at this
  have ⟨c1, c2⟩ := zs_b01 (t := J a) (i := b) hz.1 (by have := hz.2; omega) b1 (by omega)
  have hm : zf_M_has (J a) b = some (if zi_tb (J a) b = true then 1 else 0) := by
    rw [ze_M_has hz.1 (by have := hz.2; omega) b1 (by omega)]
  rw [hm, zl_b]
  by_cases d : zi_tb (J a) b = true
  · rw [if_pos d, if_neg (by decide), c1 d]
    exact ⟨_, _, _, _, _, _, _, _, _, _, _, _, _, _, _, _, rfl, rfl⟩
  · rw [if_neg d, if_pos rfl, c2 d]
    exact ⟨_, _, _, _, _, _, _, _, _, _, _, _, _, _, _, _, rfl, rfl⟩
theorem yo_steered (R : yl_R L K V nc tS tL sP lP kd fr hf to mc C mk mf mh mt) (k : yk_sky t h u cl sc sr ch co ro br wc wr m) (z : yk_sea ts gp gl m) {s i N dr f5 f6 f7 f8 f9 f14 f16 : Int} {g1 g2 g10 S2 mS : Int → Int} :
    ∃ r f5' f6' f7' h' u' cl' f14' f16' ch' gp' g1' g2' co' ro' g10' m' S2' mS', zf_X_steered s i N dr ts t f5 f6 f7 h u sc sr cl tS f14 nc f16 sP ch gp g1 g2 co ro br kd hf to K g10 V gl wc wr fr = some (r, f5', f6', f7', h', u', cl', f14', f16', ch', gp', g1', g2', co', ro', g10') ∧
      zf_M_steered s i N dr mc m mk S2 mh mt C mS mf = some (r, m', S2', mS') ∧ yk_sky t h' u' cl' sc sr ch' co' ro' br wc wr m' ∧ yk_sea ts gp' gl m' := by
  obtain ⟨⟨ht, k126⟩, -⟩ := id k
  obtain ⟨⟨t1, t2, e127, -⟩, hb⟩ := id z
  have tin : 0 ≤ t ∧ t ≤ 2147483647 := ⟨ht.1, by have := ht.2; omega⟩
  unfold zf_X_steered zf_M_steered
  rw [ze_Sea_hasShip t1 (by omega), ze_M_isShip (by omega) (by omega), e127, zl_b, zl_b]
  by_cases q1 : zs_has 6 ts s = 0
  · rw [if_pos q1, if_pos q1]
    exact ⟨-1, f5, f6, f7, h, u, cl, f14, f16, ch, gp, g1, g2, co, ro, g10, m, S2, mS, rfl, rfl, k, z⟩
  rw [if_neg q1, if_neg q1, ze_Sky_hasStar tin.1 tin.2, ze_M_isTold (by rw [k126]; exact tin.1) (by rw [k126]; exact tin.2), k126, zl_b, zl_b]
  obtain ⟨s1, s2, -⟩ := zs_has_ne q1
  by_cases q2 : zs_has 24 t i = 0
  · rw [if_pos q2, if_pos q2]
    exact ⟨-1, f5, f6, f7, h, u, cl, f14, f16, ch, gp, g1, g2, co, ro, g10, m, S2, mS, rfl, rfl, k, z⟩
  rw [if_neg q2, if_neg q2, ze_X_isWithin, ze_M_in, zl_b, zl_b]
  obtain ⟨i1, i2, -⟩ := zs_has_ne q2
  by_cases q3 : zs_in N 1 48 = 0
  · rw [if_pos q3, if_pos q3]
    exact ⟨-1, f5, f6, f7, h, u, cl, f14, f16, ch, gp, g1, g2, co, ro, g10, m, S2, mS, rfl, rfl, k, z⟩
  rw [if_neg q3, if_neg q3, zl_c (zi_ix_of s1 s2)]
  obtain ⟨N1, N2⟩ := zs_in_ne q3
  have hti : zb t i.toNat = true := by
    by_cases hh : zb t i.toNat = true
    · exact hh
    · exact absurd (zs_has0 tin.1 tin.2 hh) q2
  obtain ⟨p', as', vx', vy', h', u', cl', ho', f', ch', pa', g', co', ro', S', m', g2', S2', e1, e2, k2, z2, -⟩ := yk_steered_l R (dr := dr) (N := N) N2 s1 s2 i1 i2 hti 48 0 (gp s) f5 f6 f7 h u cl f14 f16 ch g1 g2 co ro g10 m S2 mS gp zi_fu zi_fu (by omega) (by decide) (by decide) (by decide) k z rfl
  rw [e1, zl_b, e2, zl_b, zi_w_id (x := 120 + s) (by omega) (by omega), zl_c (zi_ix_of (by omega) (by omega))]
  have ep : m' (120 + s) = p' := by
    rw [z2.1.2.2.2.1 s s1 s2, zv_up_s]
  dsimp only
  rw [ep]
  exact ⟨_, _, _, _, _, _, _, _, _, _, _, _, _, _, _, _, _, _, _, rfl, rfl, k2, z2⟩
theorem yo_over_l (k : yk_sky t h u cl sc sr ch co ro br wc wr m) {x y : Int} (x1 : 0 ≤ x) (x2 : x ≤ 23) : ∀ (d : Nat) (i s : Int) (n n2 : Nat), i + d = 24 → 0 ≤ i → d < n → d < n2 → ∃ a, zf_X_over_l0 x y t ro co n s i = some a ∧ zf_M_over_l0 x y m n2 s i = some a := by
  obtain ⟨⟨ht, k126⟩, -, -, -, -, -, -, ki⟩ := id k
  have tin : 0 ≤ t ∧ t ≤ 2147483647 := ⟨ht.1, by have := ht.2; omega⟩
  intro d
  induction d with
  | zero =>
    intro i s n n2 e i1 hn hn2
    obtain ⟨n, rfl⟩ : ∃ q, n = q + 1 := ⟨n - 1, by omega⟩
    obtain ⟨n2, rfl⟩ : ∃ q, n2 = q + 1 := ⟨n2 - 1, by omega⟩
    refine ⟨s, ?_, ?_⟩
    · show zf_X_over_l0_b x y t ro co (zf_X_over_l0 x y t ro co n) s i = _
      unfold zf_X_over_l0_b
      rw [if_neg (by omega)]
    · show zf_M_over_l0_b x y m (zf_M_over_l0 x y m n2) s i = _
      unfold zf_M_over_l0_b
      rw [if_neg (by omega)]
  | succ d ih =>
    intro i s n n2 e i1 hn hn2
    obtain ⟨n, rfl⟩ : ∃ q, n = q + 1 := ⟨n - 1, by omega⟩
    obtain ⟨n2, rfl⟩ : ∃ q, n2 = q + 1 := ⟨n2 - 1, by omega⟩
    show ∃ a, zf_X_over_l0_b x y t ro co (zf_X_over_l0 x y t ro co n) s i = some a ∧ zf_M_over_l0_b x y m (zf_M_over_l0 x y m n2) s i = some a
    have nx : ∀ s2 : Int, ∃ a, zf_X_over_l0 x y t ro co n s2 (zi_w (i + 1)) = some a ∧ zf_M_over_l0 x y m n2 s2 (zi_w (i + 1)) = some a := fun s2 => by
      rw [zi_w_id (x := i + 1) (by omega) (by omega)]
      exact ih (i + 1) s2 n n2 (by omega) (by omega) (by omega) (by omega)
    unfold zf_X_over_l0_b zf_M_over_l0_b
    rw [if_pos (show i < 24 by omega), if_pos (show i < 24 by omega), ze_Sky_hasStar tin.1 tin.2, ze_M_isTold (by rw [k126]; exact tin.1) (by rw [k126]; exact tin.2), k126, zl_b, zl_b]
    by_cases q : zs_has 24 t i = 0
    · rw [if_pos q, if_pos q]
      exact nx s
    rw [if_neg q, if_neg q, zl_ci i1 (by omega), zi_w_id (x := 24 + i) (by omega) (by omega), zi_w_id (x := 0 + i) (by omega) (by omega), zl_ci (by omega) (by omega), Int.zero_add, zl_ci (by omega) (by omega)]
    have hti : zb t i.toNat = true := by
      by_cases hh : zb t i.toNat = true
      · exact hh
      · exact absurd (zs_has0 tin.1 tin.2 hh) q
    obtain ⟨hj1, hj2, hj3⟩ := ki i i1 (by omega)
    obtain ⟨c0, c1, -⟩ := hj3 hti
    rw [c0, c1]
    obtain ⟨⟨b1, b2⟩, -⟩ := hj1
    by_cases r : ro i = y
    · rw [if_pos r, if_pos r, zi_w_id (x := x - co i) (by omega) (by omega), ze_floorMod (by omega) (by omega), zl_b, zi_w_id (x := x - co i + 24) (by omega) (by omega), zi_rem_eq (a := x - co i + 24) (by omega) (by omega) (by decide) (by decide), show (x - co i + 24) % 24 = (x - co i) % 24 by omega]
      exact nx _
    · rw [if_neg r, if_neg r]
      exact nx s
theorem yo_over (k : yk_sky t h u cl sc sr ch co ro br wc wr m) {x y : Int} : ∃ a, zf_X_over x y t ro co = some a ∧ zf_M_over x y m = some a := by
  unfold zf_X_over zf_M_over
  rw [ze_X_isPlace, ze_M_isPlace, zl_b, zl_b]
  by_cases q : zs_pl x y = 0
  · rw [if_pos q, if_pos q]
    exact ⟨-1, rfl, rfl⟩
  rw [if_neg q, if_neg q]
  obtain ⟨x1, x2, y1, y2⟩ := zs_pl_ne q
  obtain ⟨a, e1, e2⟩ := yo_over_l (y := y) k x1 (by omega : x ≤ 23) 24 0 0 zi_fu zi_fu rfl (by decide) (by decide) (by decide)
  rw [e1, e2]
  exact ⟨a, rfl, rfl⟩
end YOQ
