/-! home: alike on both sides. -/
section YHM
variable {L : zLW} {K V kd fr hf to C mk mf mh mt : Int → Int} {nc tS tL sP lP mc : Int} {t h u cl sc sr ch ts : Int} {co ro br wc wr m gp gl : Int → Int}
theorem ze_home_out {p s0 : Int} {Lo : Int → Int} {x5 x6 f1 : Int} {g0 g2 g6 g7 : Int → Int} (hx : x5 ≠ -2) (n : Nat) : zf_M_home_l1 p s0 mc mk mh mt C Lo (n + 1) x5 x6 f1 g0 g2 g6 g7 = some (x5, f1, g0, g2, g6, g7) := by
  show zf_M_home_l1_b p s0 mc mk mh mt C Lo (zf_M_home_l1 p s0 mc mk mh mt C Lo n) x5 x6 f1 g0 g2 g6 g7 = _
  unfold zf_M_home_l1_b
  by_cases q : 60 < x6
  · rw [if_pos q]
  · rw [if_neg q, if_neg hx]
theorem yh_l (R : yl_R L K V nc tS tL sP lP kd fr hf to mc C mk mf mh mt) {x y s0 F3 F4 F5 F14 : Int} {G0 J0 G12 Lo : Int → Int} (x1 : 0 ≤ x) (x2 : x ≤ 23) (y1 : 0 ≤ y) (y2 : y ≤ 11) (hJ : ∀ i, 0 ≤ i → i < 24 → J0 i = Lo i) :
    ∀ (d : Nat) (j f u f30 f31 f32 f33 f34 f1 : Int) (g1 g9 co ro g20 g21 g22 m g2 g6 g7 : Int → Int) (n n2 : Nat), 61 - j ≤ d → 1 ≤ j → d < n → d + 1 < n2 → yk_sky t h u cl sc sr ch co ro br wc wr m →
    ∃ f' u' f30' f31' f32' f33' f34' g1' g9' co' ro' g20' g21' g22' r f1' m' g2' g6' g7',
      ((zf_X_home_l0 x y F3 F4 F5 s0 tS F14 nc sP tL lP t h cl sc sr ch G0 kd hf to K V J0 G12 br wc wr n j f u f30 f31 f32 f33 f34 g1 g9 co ro g20 g21 g22 = some (.inl (f', u', f30', f31', f32', f33', f34', g1', g9', co', ro', g20', g21', g22')) ∧ r = -2) ∨
        zf_X_home_l0 x y F3 F4 F5 s0 tS F14 nc sP tL lP t h cl sc sr ch G0 kd hf to K V J0 G12 br wc wr n j f u f30 f31 f32 f33 f34 g1 g9 co ro g20 g21 g22 = some (.inr (r, F3, F4, F5, s0, F14, f', t, h, u', cl, sc, sr, ch, f30', f31', f32', f33', f34', G0, g1', g9', J0, G12, co', ro', br, wc, wr, g20', g21', g22'))) ∧
      zf_M_home_l1 (24 * y + x) s0 mc mk mh mt C Lo n2 (-2) j f1 m g2 g6 g7 = some (r, f1', m', g2', g6', g7') := by
  intro d
  induction d with
  | zero =>
    intro j f u f30 f31 f32 f33 f34 f1 g1 g9 co ro g20 g21 g22 m g2 g6 g7 n n2 e j1 hn hn2 k
    obtain ⟨n, rfl⟩ : ∃ q, n = q + 1 := ⟨n - 1, by omega⟩
    obtain ⟨n2, rfl⟩ : ∃ q, n2 = q + 1 := ⟨n2 - 1, by omega⟩
    refine ⟨f, u, f30, f31, f32, f33, f34, g1, g9, co, ro, g20, g21, g22, -2, f1, m, g2, g6, g7, .inl ⟨?_, rfl⟩, ?_⟩
    · show zf_X_home_l0_b x y F3 F4 F5 s0 tS F14 nc sP tL lP t h cl sc sr ch G0 kd hf to K V J0 G12 br wc wr (zf_X_home_l0 x y F3 F4 F5 s0 tS F14 nc sP tL lP t h cl sc sr ch G0 kd hf to K V J0 G12 br wc wr n) j f u f30 f31 f32 f33 f34 g1 g9 co ro g20 g21 g22 = _
      unfold zf_X_home_l0_b
      rw [if_pos (by omega)]
    · show zf_M_home_l1_b (24 * y + x) s0 mc mk mh mt C Lo (zf_M_home_l1 (24 * y + x) s0 mc mk mh mt C Lo n2) (-2) j f1 m g2 g6 g7 = _
      unfold zf_M_home_l1_b
      rw [if_pos (by omega)]
  | succ d ih =>
    intro j f u f30 f31 f32 f33 f34 f1 g1 g9 co ro g20 g21 g22 m g2 g6 g7 n n2 e j1 hn hn2 k
    obtain ⟨n, rfl⟩ : ∃ q, n = q + 1 := ⟨n - 1, by omega⟩
    obtain ⟨n2, rfl⟩ : ∃ q, n2 = q + 1 := ⟨n2 - 1, by omega⟩
    show ∃ f' u' f30' f31' f32' f33' f34' g1' g9' co' ro' g20' g21' g22' r f1' m' g2' g6' g7',
      ((zf_X_home_l0_b x y F3 F4 F5 s0 tS F14 nc sP tL lP t h cl sc sr ch G0 kd hf to K V J0 G12 br wc wr (zf_X_home_l0 x y F3 F4 F5 s0 tS F14 nc sP tL lP t h cl sc sr ch G0 kd hf to K V J0 G12 br wc wr n) j f u f30 f31 f32 f33 f34 g1 g9 co ro g20 g21 g22 = some (.inl (f', u', f30', f31', f32', f33', f34', g1', g9', co', ro', g20', g21', g22')) ∧ r = -2) ∨
        zf_X_home_l0_b x y F3 F4 F5 s0 tS F14 nc sP tL lP t h cl sc sr ch G0 kd hf to K V J0 G12 br wc wr (zf_X_home_l0 x y F3 F4 F5 s0 tS F14 nc sP tL lP t h cl sc sr ch G0 kd hf to K V J0 G12 br wc wr n) j f u f30 f31 f32 f33 f34 g1 g9 co ro g20 g21 g22 = some (.inr (r, F3, F4, F5, s0, F14, f', t, h, u', cl, sc, sr, ch, f30', f31', f32', f33', f34', G0, g1', g9', J0, G12, co', ro', br, wc, wr, g20', g21', g22'))) ∧
      zf_M_home_l1_b (24 * y + x) s0 mc mk mh mt C Lo (zf_M_home_l1 (24 * y + x) s0 mc mk mh mt C Lo n2) (-2) j f1 m g2 g6 g7 = some (r, f1', m', g2', g6', g7')
    unfold zf_X_home_l0_b zf_M_home_l1_b
    by_cases q : 60 < j
    · rw [if_pos q, if_pos q]
      exact ⟨f, u, f30, f31, f32, f33, f34, g1, g9, co, ro, g20, g21, g22, -2, f1, m, g2, g6, g7, .inl ⟨rfl, rfl⟩, rfl⟩
    rw [if_neg q, if_neg q, if_pos (show (-2 : Int) = -2 from rfl)]
    obtain ⟨co2, ro2, m2, e1, e2, k2, -⟩ := yk_night k
    obtain ⟨gA, e0, h0⟩ := ze_open (f := f30) (g := g20)
    rw [e1, zl_b, e0, zl_b, e2, zl_b]
    dsimp only
    obtain ⟨s', as', ho', a', g', S', eL, iL, -⟩ := yx_look (f2 := f31) (f3 := f32) (f6 := f33) (f := f) (g := g1) (S := g9) R k2 x1 x2 y1 y2 (yv_ca0 (ho := f34))
    obtain ⟨s2, g2', S2', J2, eM, iM, lM⟩ := ym_looks (f1 := f1) (g := g2) (S := g6) (J := g7) R k2 x1 x2 y1 y2
    rw [eL, zl_b, eM, zl_b]
    dsimp only
    have es := yv_is_eq iM iL
    subst es
    rw [zi_w_id (x := j + 1) (by omega) (by omega)]
    by_cases c : s2 = s0
    · rw [if_pos c, if_pos c]
      obtain ⟨f'', J', g3, pa', ph', S3, eD, iD, -⟩ := yx_draw (s := s2) (f := a') (J := g21) (g := g') (ph := g22) (S := S') (x := x) (y := y) R k2 (yv_cp0 h0)
      rw [eD, zl_b]
      dsimp only
      have ej := yv_il_eq iD lM
      unfold zf_View_hasLinesOf
      rcases yo_lines_eq (G := J') (H := J0) 24 0 zi_fu (by decide) (by decide) (by decide) with ⟨eH, hall⟩ | ⟨eH, i, i0, i1, hne⟩
      · rw [eH, zl_b]
        dsimp only [Sum.elim]
        rw [zl_b, if_neg (show ¬ (1 : Int) = 0 by decide)]
        rcases yh_l2 (G := J2) (H := Lo) 24 0 1 zi_fu (by decide) (by decide) (by decide) (.inr rfl) with ⟨eN, -, -⟩ | ⟨eN, w | ⟨i, i0, i1, hne⟩⟩
        · rw [eN, zl_b, if_neg (show ¬ (1 : Int) = 0 by decide)]
          obtain ⟨n2, rfl⟩ : ∃ q, n2 = q + 1 := ⟨n2 - 1, by omega⟩
          rw [ze_home_out (show j ≠ -2 by omega)]
          exact ⟨_, _, _, _, _, _, _, _, _, _, _, _, _, _, _, _, _, _, _, _, .inr rfl, rfl⟩
        · exact absurd w (by decide)
        · exact absurd (by rw [← ej i i0 i1, hall i i0 i1, hJ i i0 i1]) hne
      · rw [eH, zl_b]
        dsimp only [Sum.elim]
        rw [zl_b, if_pos (show (0 : Int) = 0 from rfl)]
        rcases yh_l2 (G := J2) (H := Lo) 24 0 1 zi_fu (by decide) (by decide) (by decide) (.inr rfl) with ⟨eN, -, hall⟩ | ⟨eN, -⟩
        · exact absurd (by rw [ej i i0 i1, hall i i0 i1, hJ i i0 i1]) hne
        · rw [eN, zl_b, if_pos (show (0 : Int) = 0 from rfl)]
          exact ih (j + 1) _ _ _ _ _ _ _ _ _ _ _ _ _ _ _ _ _ _ _ n n2 (by omega) (by omega) (by omega) (by omega) k2
    · rw [if_neg c, if_neg c]
      rcases yh_l2 (G := J2) (H := Lo) 24 0 0 zi_fu (by decide) (by decide) (by decide) (.inl rfl) with ⟨eN, w, -⟩ | ⟨eN, -⟩
      · exact absurd w (by decide)
      · rw [eN, zl_b, if_pos (show (0 : Int) = 0 from rfl)]
        exact ih (j + 1) _ _ _ _ _ _ _ _ _ _ _ _ _ _ _ _ _ _ _ n n2 (by omega) (by omega) (by omega) (by omega) k2
theorem yo_home (R : yl_R L K V nc tS tL sP lP kd fr hf to mc C mk mf mh mt) (k : yk_sky t h u cl sc sr ch co ro br wc wr m) {x y f3 f4 f5 f8 f14 f16 f20 f21 f22 f23 f24 f25 f27 f30 f31 f32 f33 f34 f1 : Int} {g0 g1 g9 g11 g12 g13 g14 g15 g17 g19 g20 g21 g22 h2 h6 h7 h8 h9 : Int → Int} :
    ∃ r f3' f4' f5' f8' f14' f16' f20' f21' f22' f23' f24' f25' f27' f30' f31' f32' f33' f34' g0' g1' g9' g11' g12' g13' g14' g15' g17' g19' g20' g21' g22' f1' m' h2' h6' h7' h8' h9',
      zf_X_home x y f3 f4 f5 h u f8 t sc sr cl tS f14 nc f16 sP tL lP f20 f21 f22 f23 f24 f25 ch f27 f30 f31 f32 f33 f34 g0 g1 co ro br kd hf to K g9 V g11 g12 g13 g14 g15 wc g17 wr g19 g20 g21 g22 = some (r, f3', f4', f5', f8', f14', f16', f20', f21', f22', f23', f24', f25', f27', f30', f31', f32', f33', f34', g0', g1', g9', g11', g12', g13', g14', g15', g17', g19', g20', g21', g22') ∧
      zf_M_home x y mc f1 m mk h2 mh mt C h6 h7 h8 h9 = some (r, f1', m', h2', h6', h7', h8', h9') ∧ ∀ j, 0 ≤ j → j < 422 → m' j = m j := by
  unfold zf_X_home zf_M_home
  rw [ze_X_isPlace, ze_M_isPlace, zl_b, zl_b]
  by_cases q : zs_pl x y = 0
  · rw [if_pos q, if_pos q]
    exact ⟨_, _, _, _, _, _, _, _, _, _, _, _, _, _, _, _, _, _, _, _, _, _, _, _, _, _, _, _, _, _, _, _, _, _, _, _, _, _, _, rfl, rfl, fun _ _ _ => rfl⟩
  rw [if_neg q, if_neg q]
  obtain ⟨x1, x2, y1, y2⟩ := zs_pl_ne q
  obtain ⟨f3', s', f14', f16', g0', g1', g9', J, g12', e1, i1, l1⟩ := yx_lad (f3 := f3) (f4 := f4) (f5 := f5) (f8 := f8) (f14 := f14) (f16 := f16) (g0 := g0) (g1 := g1) (g9 := g9) (g11 := g11) (g12 := g12) R k x1 (by omega : x ≤ 23) y1 (by omega : y ≤ 11)
  obtain ⟨s2, h2', h6', J2, e2, i2, l2⟩ := ym_looks (f1 := f1) (g := h2) (S := h6) (J := h7) R k x1 (by omega) y1 (by omega)
  rw [e1, zl_b, zi_w_id (x := 24 * y) (by omega) (by omega), zi_w_id (x := 24 * y + x) (by omega) (by omega), e2, zl_b]
  have es := yv_is_eq i2 i1
  subst es
  obtain ⟨Lo, e3, hL, -⟩ := yh_l0 (g1 := J2) 24 0 h8 zi_fu (by decide) (by decide) (by decide)
  obtain ⟨mA, e4, hA⟩ := ze_begins (g0 := m) (g := h9)
  unfold zf_Sky_copyFrom
  rw [zl_b]
  dsimp only
  rw [e3, zl_b, e4, zl_b]
  have k2 : yk_sky t h u cl sc sr ch (zv_cpy co g13 24) (zv_cpy ro g14 24) (zv_cpy br g15 24) (zv_cpy wc g17 24) (zv_cpy wr g19 24) m := yk_sky_cg k (fun j j1 j2 => zv_cpy_in j2) (fun j j1 j2 => zv_cpy_in j2) (fun j j1 j2 => zv_cpy_in j2) (fun j j1 j2 => zv_cpy_in j2) (fun j j1 j2 => zv_cpy_in j2) (fun _ _ _ => rfl)
  obtain ⟨f', u', f30', f31', f32', f33', f34', g1'', g9'', co', ro', g20', g21', g22', r, f1', m', g2', g6', g7', e5, e6⟩ := yh_l (t := t) (h := h) (cl := cl) (sc := sc) (sr := sr) (ch := ch) R (x := x) (y := y) (s0 := s2) (F3 := f3') (F4 := x) (F5 := y) (F14 := f14') (G0 := g0') (J0 := J) (G12 := g12') (Lo := Lo) x1 (by omega) y1 (by omega) (fun i i0 i1' => by rw [yv_il_eq l1 l2 i i0 i1', hL i i0 i1']) 60 1 f16' u f30 f31 f32 f33 f34 s2 g1' g9' _ _ g20 g21 g22 m h2' h6' J2 zi_fu zi_fu (by decide) (by decide) (by decide) (by decide) k2
  obtain ⟨mB, e7, hB⟩ := ze_again (g0 := mA) (g := m')
  rw [e6, zl_b]
  dsimp only
  rw [e7, zl_b]
  have fin : ∀ j, 0 ≤ j → j < 422 → mB j = m j := fun j j0 j1 => by rw [hB j j0 j1, hA j j0 j1]
  rcases e5 with ⟨e5, rfl⟩ | e5
  · rw [e5, zl_b]
    dsimp only [Sum.elim]
    exact ⟨_, _, _, _, _, _, _, _, _, _, _, _, _, _, _, _, _, _, _, _, _, _, _, _, _, _, _, _, _, _, _, _, _, _, _, _, _, _, _, rfl, rfl, fin⟩
  · rw [e5, zl_b]
    dsimp only [Sum.elim]
    exact ⟨_, _, _, _, _, _, _, _, _, _, _, _, _, _, _, _, _, _, _, _, _, _, _, _, _, _, _, _, _, _, _, _, _, _, _, _, _, _, _, rfl, rfl, fin⟩
end YHM
