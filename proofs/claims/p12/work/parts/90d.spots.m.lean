/-! 90d.spots, 90e.home, 91a.sail, 91b.spread, 91c.meet, 92a.total, 92b.ways, 92c.level, 92d.told, 92e.hides -/
section
/-! The places of a log: laid and counted alike. -/
section YSP
variable {ts : Int} {gp gl m : Int → Int}
theorem yp_lay_l (z : yk_sea ts gp gl m) : ∀ (d : Nat) (j : Int) (A B : Int → Int) (n : Nat), j + d = 288 → 0 ≤ j → d < n →
    ∃ A' B', zf_X_log_l0 gl n j A = some A' ∧ zf_M_log_l0 m n j B = some B' ∧ (∀ i, j ≤ i → i < 288 → A' i = (if yg_ld gl i = true then -1 else i) ∧ B' i = (if yg_ld gl i = true then -1 else i)) ∧ ∀ i, i < j → A' i = A i ∧ B' i = B i := by
  intro d
  induction d with
  | zero =>
    intro j A B n e j0 hn
    obtain ⟨n, rfl⟩ : ∃ q, n = q + 1 := ⟨n - 1, by omega⟩
    refine ⟨A, B, ?_, ?_, fun i _ _ => by omega, fun i _ => ⟨rfl, rfl⟩⟩
    · show zf_X_log_l0_b gl (zf_X_log_l0 gl n) j A = _
      unfold zf_X_log_l0_b
      rw [if_neg (by omega)]
    · show zf_M_log_l0_b m (zf_M_log_l0 m n) j B = _
      unfold zf_M_log_l0_b
      rw [if_neg (by omega)]
  | succ d ih =>
    intro j A B n e j0 hn
    obtain ⟨n, rfl⟩ : ∃ q, n = q + 1 := ⟨n - 1, by omega⟩
    obtain ⟨v, hv⟩ : ∃ v : Int, v = if yg_ld gl j = true then -1 else j := ⟨_, rfl⟩
    obtain ⟨A', B', e1, e2, a, b⟩ := ih (j + 1) (zv_up A j v) (zv_up B j v) n (by omega) (by omega) (by omega)
    refine ⟨A', B', ?_, ?_, fun i i0 i1 => ?_, fun i i0 => ?_⟩
    · show zf_X_log_l0_b gl (zf_X_log_l0 gl n) j A = _
      unfold zf_X_log_l0_b
      rw [if_pos (by omega), ze_isLandX z j0 (by omega), zl_b, zl_ci j0 (by omega), zl_ci j0 (by omega), zi_w_id (x := j + 1) (by omega) (by omega), ← e1, hv]
      by_cases q : yg_ld gl j = true
      · rw [if_pos q, if_pos q, if_neg (by decide)]
      · rw [if_neg q, if_neg q, if_pos rfl]
    · show zf_M_log_l0_b m (zf_M_log_l0 m n) j B = _
      unfold zf_M_log_l0_b
      rw [if_pos (by omega), ze_isLandM z j0 (by omega), zl_b, zl_ci j0 (by omega), zl_ci j0 (by omega), zi_w_id (x := j + 1) (by omega) (by omega), ← e2, hv]
      by_cases q : yg_ld gl j = true
      · rw [if_pos q, if_pos q, if_neg (by decide)]
      · rw [if_neg q, if_neg q, if_pos rfl]
    · by_cases w : i = j
      · subst w
        obtain ⟨x, y⟩ := b i (by omega)
        rw [x, y, zv_up_s, zv_up_s, hv]
        exact ⟨rfl, rfl⟩
      · exact a i (by omega) i1
    · obtain ⟨x, y⟩ := b i (by omega)
      rw [x, y, zv_up_n (by omega), zv_up_n (by omega)]
      exact ⟨rfl, rfl⟩
theorem yp_count_l {A B : Int → Int} (h : ∀ i, 0 ≤ i → i < 288 → A i = B i) : ∀ (d : Nat) (j c f : Int) (n : Nat), j + d = 288 → 0 ≤ j → d < n → 0 ≤ c → c ≤ j →
    ∃ c' f', zf_X_countSpots_l0 A n c j = some c' ∧ zf_M_log_l3 B n c f j = some (c', f') ∧ (c ≠ 0 → f' = f) ∧ (c = 0 → (zf_X_firstSpot_l0 A n j = some (.inl ()) ∧ f' = f) ∨ zf_X_firstSpot_l0 A n j = some (.inr f')) := by
  intro d
  induction d with
  | zero =>
    intro j c f n e j0 hn c0 c1
    obtain ⟨n, rfl⟩ : ∃ q, n = q + 1 := ⟨n - 1, by omega⟩
    refine ⟨c, f, ?_, ?_, fun _ => rfl, fun _ => .inl ⟨?_, rfl⟩⟩
    · show zf_X_countSpots_l0_b A (zf_X_countSpots_l0 A n) c j = _
      unfold zf_X_countSpots_l0_b
      rw [if_neg (by omega)]
    · show zf_M_log_l3_b B (zf_M_log_l3 B n) c f j = _
      unfold zf_M_log_l3_b
      rw [if_neg (by omega)]
    · show zf_X_firstSpot_l0_b A (zf_X_firstSpot_l0 A n) j = _
      unfold zf_X_firstSpot_l0_b
      rw [if_neg (by omega)]
  | succ d ih =>
    intro j c f n e j0 hn c0 c1
    obtain ⟨n, rfl⟩ : ∃ q, n = q + 1 := ⟨n - 1, by omega⟩
    show ∃ c' f', zf_X_countSpots_l0_b A (zf_X_countSpots_l0 A n) c j = _ ∧ zf_M_log_l3_b B (zf_M_log_l3 B n) c f j = _ ∧ (c ≠ 0 → f' = f) ∧ (c = 0 → (zf_X_firstSpot_l0_b A (zf_X_firstSpot_l0 A n) j = _ ∧ f' = f) ∨ zf_X_firstSpot_l0_b A (zf_X_firstSpot_l0 A n) j = _)
    unfold zf_X_countSpots_l0_b zf_M_log_l3_b zf_X_firstSpot_l0_b
    rw [if_pos (show j < 288 by omega), if_pos (show j < 288 by omega), if_pos (show j < 288 by omega), zl_ci j0 (by omega), zl_ci j0 (by omega), zl_ci j0 (by omega), ← h j j0 (by omega), zi_w_id (x := j + 1) (by omega) (by omega), zi_w_id (x := c + 1) (by omega) (by omega)]
    by_cases q : A j = -1
    · rw [if_pos q, if_pos q, if_pos q]
      exact ih (j + 1) c f n (by omega) (by omega) (by omega) c0 (by omega)
    · rw [if_neg q, if_neg q, if_neg q]
      by_cases w : c = 0
      · rw [if_pos w]
        obtain ⟨c', f', e1, e2, e3, -⟩ := ih (j + 1) (c + 1) j n (by omega) (by omega) (by omega) (by omega) (by omega)
        have := e3 (by omega)
        exact ⟨c', f', e1, e2, fun x => absurd w x, fun _ => .inr (by rw [this])⟩
      · rw [if_neg w]
        obtain ⟨c', f', e1, e2, e3, -⟩ := ih (j + 1) (c + 1) f n (by omega) (by omega) (by omega) (by omega) (by omega)
        exact ⟨c', f', e1, e2, fun _ => e3 (by omega), fun x => absurd x w⟩
theorem yp_count {A B : Int → Int} (h : ∀ i, 0 ≤ i → i < 288 → A i = B i) : ∃ c f, zf_X_countSpots A = some c ∧ zf_X_firstSpot A = some f ∧ zf_M_log_l3 B zi_fu 0 (-2) 0 = some (c, f) := by
  obtain ⟨c, f, e1, e2, -, e4⟩ := yp_count_l h 288 0 0 (-2) zi_fu (by decide) (by decide) (by decide) (by decide) (by decide)
  refine ⟨c, f, ?_, ?_, e2⟩
  · unfold zf_X_countSpots
    rw [e1]; rfl
  · unfold zf_X_firstSpot
    rcases e4 rfl with ⟨e, ef⟩ | e
    · rw [e, zl_b, ef]; rfl
    · rw [e, zl_b]; rfl
end YSP
end
section
/-! home: alike on both sides. -/
section YHM
variable {L : zLW} {K V kd fr hf to C mk mf mh mt : Int → Int} {nc tS tL sP lP mc : Int} {t h u cl sc sr ch ts : Int} {co ro br wc wr m gp gl : Int → Int}
theorem ze_home_out {p s0 : Int} {Lo : Int → Int} {x5 x6 f1 : Int} {g0 g2 g6 g7 : Int → Int} (hx : x5 ≠ -2) (n : Nat) : zf_M_home_l1 p s0 mc mk mh mt C Lo (n + 1) x5 x6 f1 g0 g2 g6 g7 = some (x5, f1, g0, g2, g6, g7) := by
  show zf_M_home_l1_b p s0 mc mk mh mt C Lo (zf_M_home_l1 p s0 mc mk mh mt C Lo n) x5 x6 f1 g0 g2 g6 g7 = _
  unfold zf_M_home_l1_b
  by_cases q : 60 < x6
  · rw [if_pos q]
  · rw [if_neg q, if_neg hx]
theorem yh_l (R : yl_R L K V nc tS tL sP lP kd fr hf to mc C mk mf mh mt) {x y s0 F3 F4 F5 F14 : Int} {G0 J0 G12 Lo : Int → Int} (x1 : 0 ≤ x) (x2 : x ≤ 23) (y1 : 0 ≤ y) (y2 : y ≤ 11) (hJ : ∀ i, 0 ≤ i → i < 24 → J0 i = Lo i) :
    ∀ (d : Nat) (j f u f30 f31 f32 f33 f34 f1 : Int) (g1 g9 co ro g20 g21 g22 m g2 g6 g7 : Int → Int) (n n2 : Nat), 61 - j ≤ d → 1 ≤ j → d < n → d + 1 < n2 → yk_sky t h u cl sc sr ch co ro br wc wr m →
    ∃ f' u' f30' f31' f32' f33' f34' g1' g9' co' ro' g20' g21' g22' r f1' m' g2' g6' g7',
      ((zf_X_home_l0 x y F3 F4 F5 s0 tS F14 nc sP tL lP t h cl sc sr ch G0 kd hf to K V J0 G12 br wc wr n j f u f30 f31 f32 f33 f34 g1 g9 co ro g20 g21 g22 = some (.inl (f', u', f30', f31', f32', f33', f34', g1', g9', co', ro', g20', g21', g22')) ∧ r = -2) ∨
        zf_X_home_l0 x y F3 F4 F5 s0 tS F14 nc sP tL lP t h cl sc sr ch G0 kd hf to K V J0 G12 br wc wr n j f u f30 f31 f32 f33 f34 g1 g9 co ro g20 g21 g22 = some (.inr (r, F3, F4, F5, s0, F14, f', t, h, u', cl, sc, sr, ch, f30', f31', f32', f33', f34', G0, g1', g9', J0, G12, co', ro', br, wc, wr, g20', g21', g22'))) ∧
      zf_M_home_l1 (24 * y + x) s0 mc mk mh mt C Lo n2 (-2) j f1 m g2 g6 g7 = some (r, f1', m', g2', g6', g7') := by
  intro d
  induction d with
  | zero =>
    intro j f u f30 f31 f32 f33 f34 f1 g1 g9 co ro g20 g21 g22 m g2 g6 g7 n n2 e j1 hn hn2 k
    obtain ⟨n, rfl⟩ : ∃ q, n = q + 1 := ⟨n - 1, by omega⟩
    obtain ⟨n2, rfl⟩ : ∃ q, n2 = q + 1 := ⟨n2 - 1, by omega⟩
    refine ⟨f, u, f30, f31, f32, f33, f34, g1, g9, co, ro, g20, g21, g22, -2, f1, m, g2, g6, g7, .inl ⟨?_, rfl⟩, ?_⟩
    · show zf_X_home_l0_b x y F3 F4 F5 s0 tS F14 nc sP tL lP t h cl sc sr ch G0 kd hf to K V J0 G12 br wc wr (zf_X_home_l0 x y F3 F4 F5 s0 tS F14 nc sP tL lP t h cl sc sr ch G0 kd hf to K V J0 G12 br wc wr n) j f u f30 f31 f32 f33 f34 g1 g9 co ro g20 g21 g22 = _
      unfold zf_X_home_l0_b
      rw [if_pos (by omega)]
    · show zf_M_home_l1_b (24 * y + x) s0 mc mk mh mt C Lo (zf_M_home_l1 (24 * y + x) s0 mc mk mh mt C Lo n2) (-2) j f1 m g2 g6 g7 = _
      unfold zf_M_home_l1_b
      rw [if_pos (by omega)]
  | succ d ih =>
    intro j f u f30 f31 f32 f33 f34 f1 g1 g9 co ro g20 g21 g22 m g2 g6 g7 n n2 e j1 hn hn2 k
    obtain ⟨n, rfl⟩ : ∃ q, n = q + 1 := ⟨n - 1, by omega⟩
    obtain ⟨n2, rfl⟩ : ∃ q, n2 = q + 1 := ⟨n2 - 1, by omega⟩
    show ∃ f' u' f30' f31' f32' f33' f34' g1' g9' co' ro' g20' g21' g22' r f1' m' g2' g6' g7',
      ((zf_X_home_l0_b x y F3 F4 F5 s0 tS F14 nc sP tL lP t h cl sc sr ch G0 kd hf to K V J0 G12 br wc wr (zf_X_home_l0 x y F3 F4 F5 s0 tS F14 nc sP tL lP t h cl sc sr ch G0 kd hf to K V J0 G12 br wc wr n) j f u f30 f31 f32 f33 f34 g1 g9 co ro g20 g21 g22 = some (.inl (f', u', f30', f31', f32', f33', f34', g1', g9', co', ro', g20', g21', g22')) ∧ r = -2) ∨
        zf_X_home_l0_b x y F3 F4 F5 s0 tS F14 nc sP tL lP t h cl sc sr ch G0 kd hf to K V J0 G12 br wc wr (zf_X_home_l0 x y F3 F4 F5 s0 tS F14 nc sP tL lP t h cl sc sr ch G0 kd hf to K V J0 G12 br wc wr n) j f u f30 f31 f32 f33 f34 g1 g9 co ro g20 g21 g22 = some (.inr (r, F3, F4, F5, s0, F14, f', t, h, u', cl, sc, sr, ch, f30', f31', f32', f33', f34', G0, g1', g9', J0, G12, co', ro', br, wc, wr, g20', g21', g22'))) ∧
      zf_M_home_l1_b (24 * y + x) s0 mc mk mh mt C Lo (zf_M_home_l1 (24 * y + x) s0 mc mk mh mt C Lo n2) (-2) j f1 m g2 g6 g7 = some (r, f1', m', g2', g6', g7')
    unfold zf_X_home_l0_b zf_M_home_l1_b
    by_cases q : 60 < j
    · rw [if_pos q, if_pos q]
      exact ⟨f, u, f30, f31, f32, f33, f34, g1, g9, co, ro, g20, g21, g22, -2, f1, m, g2, g6, g7, .inl ⟨rfl, rfl⟩, rfl⟩
    rw [if_neg q, if_neg q, if_pos (show (-2 : Int) = -2 from rfl)]
    obtain ⟨co2, ro2, m2, e1, e2, k2, -⟩ := yk_night k
    obtain ⟨gA, e0, h0⟩ := ze_open (f := f30) (g := g20)
    rw [e1, zl_b, e0, zl_b, e2, zl_b]
    dsimp only
    obtain ⟨s', as', ho', a', g', S', eL, iL, -⟩ := yx_look (f2 := f31) (f3 := f32) (f6 := f33) (f := f) (g := g1) (S := g9) R k2 x1 x2 y1 y2 (yv_ca0 (ho := f34))
    obtain ⟨s2, g2', S2', J2, eM, iM, lM⟩ := ym_looks (f1 := f1) (g := g2) (S := g6) (J := g7) R k2 x1 x2 y1 y2
    rw [eL, zl_b, eM, zl_b]
    dsimp only
    have es := yv_is_eq iM iL
    subst es
    rw [zi_w_id (x := j + 1) (by omega) (by omega)]
    by_cases c : s2 = s0
    · rw [if_pos c, if_pos c]
      obtain ⟨f'', J', g3, pa', ph', S3, eD, iD, -⟩ := yx_draw (s := s2) (f := a') (J := g21) (g := g') (ph := g22) (S := S') (x := x) (y := y) R k2 (yv_cp0 h0)
      rw [eD, zl_b]
      dsimp only
      have ej := yv_il_eq iD lM
      unfold zf_View_hasLinesOf
      rcases yo_lines_eq (G := J') (H := J0) 24 0 zi_fu (by decide) (by decide) (by decide) with ⟨eH, hall⟩ | ⟨eH, i, i0, i1, hne⟩
      · rw [eH, zl_b]
        dsimp only [Sum.elim]
        rw [zl_b, if_neg (show ¬ (1 : Int) = 0 by decide)]
        rcases yh_l2 (G := J2) (H := Lo) 24 0 1 zi_fu (by decide) (by decide) (by decide) (.inr rfl) with ⟨eN, -, -⟩ | ⟨eN, w | ⟨i, i0, i1, hne⟩⟩
        · rw [eN, zl_b, if_neg (show ¬ (1 : Int) = 0 by decide)]
          obtain ⟨n2, rfl⟩ : ∃ q, n2 = q + 1 := ⟨n2 - 1, by omega⟩
          rw [ze_home_out (show j ≠ -2 by omega)]
          exact ⟨_, _, _, _, _, _, _, _, _, _, _, _, _, _, _, _, _, _, _, _, .inr rfl, rfl⟩
        · exact absurd w (by decide)
        · exact absurd (by rw [← ej i i0 i1, hall i i0 i1, hJ i i0 i1]) hne
      · rw [eH, zl_b]
        dsimp only [Sum.elim]
        rw [zl_b, if_pos (show (0 : Int) = 0 from rfl)]
        rcases yh_l2 (G := J2) (H := Lo) 24 0 1 zi_fu (by decide) (by decide) (by decide) (.inr rfl) with ⟨eN, -, hall⟩ | ⟨eN, -⟩
        · exact absurd (by rw [ej i i0 i1, hall i i0 i1, hJ i i0 i1]) hne
        · rw [eN, zl_b, if_pos (show (0 : Int) = 0 from rfl)]
          exact ih (j + 1) _ _ _ _ _ _ _ _ _ _ _ _ _ _ _ _ _ _ _ n n2 (by omega) (by omega) (by omega) (by omega) k2
    · rw [if_neg c, if_neg c]
      rcases yh_l2 (G := J2) (H := Lo) 24 0 0 zi_fu (by decide) (by decide) (by decide) (.inl rfl) with ⟨eN, w, -⟩ | ⟨eN, -⟩
      · exact absurd w (by decide)
      · rw [eN, zl_b, if_pos (show (0 : Int) = 0 from rfl)]
        exact ih (j + 1) _ _ _ _ _ _ _ _ _ _ _ _ _ _ _ _ _ _ _ n n2 (by omega) (by omega) (by omega) (by omega) k2
theorem yo_home (R : yl_R L K V nc tS tL sP lP kd fr hf to mc C mk mf mh mt) (k : yk_sky t h u cl sc sr ch co ro br wc wr m) {x y f3 f4 f5 f8 f14 f16 f20 f21 f22 f23 f24 f25 f27 f30 f31 f32 f33 f34 f1 : Int} {g0 g1 g9 g11 g12 g13 g14 g15 g17 g19 g20 g21 g22 h2 h6 h7 h8 h9 : Int → Int} :
    ∃ r f3' f4' f5' f8' f14' f16' f20' f21' f22' f23' f24' f25' f27' f30' f31' f32' f33' f34' g0' g1' g9' g11' g12' g13' g14' g15' g17' g19' g20' g21' g22' f1' m' h2' h6' h7' h8' h9',
      zf_X_home x y f3 f4 f5 h u f8 t sc sr cl tS f14 nc f16 sP tL lP f20 f21 f22 f23 f24 f25 ch f27 f30 f31 f32 f33 f34 g0 g1 co ro br kd hf to K g9 V g11 g12 g13 g14 g15 wc g17 wr g19 g20 g21 g22 = some (r, f3', f4', f5', f8', f14', f16', f20', f21', f22', f23', f24', f25', f27', f30', f31', f32', f33', f34', g0', g1', g9', g11', g12', g13', g14', g15', g17', g19', g20', g21', g22') ∧
      zf_M_home x y mc f1 m mk h2 mh mt C h6 h7 h8 h9 = some (r, f1', m', h2', h6', h7', h8', h9') ∧ ∀ j, 0 ≤ j → j < 422 → m' j = m j := by
  unfold zf_X_home zf_M_home
  rw [ze_X_isPlace, ze_M_isPlace, zl_b, zl_b]
  by_cases q : zs_pl x y = 0
  · rw [if_pos q, if_pos q]
    exact ⟨_, _, _, _, _, _, _, _, _, _, _, _, _, _, _, _, _, _, _, _, _, _, _, _, _, _, _, _, _, _, _, _, _, _, _, _, _, _, _, rfl, rfl, fun _ _ _ => rfl⟩
  rw [if_neg q, if_neg q]
  obtain ⟨x1, x2, y1, y2⟩ := zs_pl_ne q
  obtain ⟨f3', s', f14', f16', g0', g1', g9', J, g12', e1, i1, l1⟩ := yx_lad (f3 := f3) (f4 := f4) (f5 := f5) (f8 := f8) (f14 := f14) (f16 := f16) (g0 := g0) (g1 := g1) (g9 := g9) (g11 := g11) (g12 := g12) R k x1 (by omega : x ≤ 23) y1 (by omega : y ≤ 11)
  obtain ⟨s2, h2', h6', J2, e2, i2, l2⟩ := ym_looks (f1 := f1) (g := h2) (S := h6) (J := h7) R k x1 (by omega) y1 (by omega)
  rw [e1, zl_b, zi_w_id (x := 24 * y) (by omega) (by omega), zi_w_id (x := 24 * y + x) (by omega) (by omega), e2, zl_b]
  have es := yv_is_eq i2 i1
  subst es
  obtain ⟨Lo, e3, hL, -⟩ := yh_l0 (g1 := J2) 24 0 h8 zi_fu (by decide) (by decide) (by decide)
  obtain ⟨mA, e4, hA⟩ := ze_begins (g0 := m) (g := h9)
  unfold zf_Sky_copyFrom
  rw [zl_b]
  dsimp only
  rw [e3, zl_b, e4, zl_b]
  have k2 : yk_sky t h u cl sc sr ch (zv_cpy co g13 24) (zv_cpy ro g14 24) (zv_cpy br g15 24) (zv_cpy wc g17 24) (zv_cpy wr g19 24) m := yk_sky_cg k (fun j j1 j2 => zv_cpy_in j2) (fun j j1 j2 => zv_cpy_in j2) (fun j j1 j2 => zv_cpy_in j2) (fun j j1 j2 => zv_cpy_in j2) (fun j j1 j2 => zv_cpy_in j2) (fun _ _ _ => rfl)
  obtain ⟨f', u', f30', f31', f32', f33', f34', g1'', g9'', co', ro', g20', g21', g22', r, f1', m', g2', g6', g7', e5, e6⟩ := yh_l (t := t) (h := h) (cl := cl) (sc := sc) (sr := sr) (ch := ch) R (x := x) (y := y) (s0 := s2) (F3 := f3') (F4 := x) (F5 := y) (F14 := f14') (G0 := g0') (J0 := J) (G12 := g12') (Lo := Lo) x1 (by omega) y1 (by omega) (fun i i0 i1' => by rw [yv_il_eq l1 l2 i i0 i1', hL i i0 i1']) 60 1 f16' u f30 f31 f32 f33 f34 s2 g1' g9' _ _ g20 g21 g22 m h2' h6' J2 zi_fu zi_fu (by decide) (by decide) (by decide) (by decide) k2
  obtain ⟨mB, e7, hB⟩ := ze_again (g0 := mA) (g := m')
  rw [e6, zl_b]
  dsimp only
  rw [e7, zl_b]
  have fin : ∀ j, 0 ≤ j → j < 422 → mB j = m j := fun j j0 j1 => by rw [hB j j0 j1, hA j j0 j1]
  rcases e5 with ⟨e5, rfl⟩ | e5
  · rw [e5, zl_b]
    dsimp only [Sum.elim]
    exact ⟨_, _, _, _, _, _, _, _, _, _, _, _, _, _, _, _, _, _, _, _, _, _, _, _, _, _, _, _, _, _, _, _, _, _, _, _, _, _, _, rfl, rfl, fin⟩
  · rw [e5, zl_b]
    dsimp only [Sum.elim]
    exact ⟨_, _, _, _, _, _, _, _, _, _, _, _, _, _, _, _, _, _, _, _, _, _, _, _, _, _, _, _, _, _, _, _, _, _, _, _, _, _, _, rfl, rfl, fin⟩
end YHM
end
section
/-! The spreading over the sea: alike on both sides. -/
def ym_D (t : Int) (D Q E P : Int → Int) : Prop := (1 ≤ t ∧ t ≤ 288) ∧ (∀ v, 0 ≤ v → v < 288 → (D v = -1 ∧ E v = 1000000000) ∨ (0 ≤ D v ∧ D v < t ∧ E v = D v)) ∧ yn_n (fun j => decide (D j ≠ -1)) 288 = t ∧ ∀ i, 0 ≤ i → i < t → Q i = P i ∧ (0 ≤ Q i ∧ Q i < 288) ∧ D (Q i) ≠ -1
section YMS
variable {ts : Int} {gp gl m : Int → Int}
theorem ym_D_add {t x v : Int} {D Q E P : Int → Int} (h : ym_D t D Q E P) (x1 : 0 ≤ x) (x2 : x < 288) (hx : D x ≠ -1) (v1 : 0 ≤ v) (v2 : v < 288) (hv : D v = -1) : t < 288 ∧ E v = 1000000000 ∧ E x = D x ∧ (0 ≤ D x ∧ D x < 288) ∧ ym_D (t + 1) (zv_up D v (D x + 1)) (zv_up Q t v) (zv_up E v (D x + 1)) (zv_up P t v) := by
  obtain ⟨⟨t1, t2⟩, hd, hc, hq⟩ := h
  have dx : 0 ≤ D x ∧ D x < t ∧ E x = D x := by
    rcases hd x x1 x2 with ⟨a, _⟩ | a
    · exact absurd a hx
    · exact a
  have ev : E v = 1000000000 := by
    rcases hd v v1 v2 with ⟨_, a⟩ | ⟨a, _⟩
    · exact a
    · omega
  have nv : ¬ (fun j : Nat => decide (D j ≠ -1)) v.toNat = true := by
    show ¬ decide (D (v.toNat : Int) ≠ -1) = true
    rw [Int.toNat_of_nonneg v1, hv]; decide
  have lt : t < 288 := by
    have := yn_lt (f := fun j : Nat => decide (D j ≠ -1)) (g := fun _ => true) (k := v.toNat) nv rfl 288 (by omega) (fun _ _ _ => rfl)
    have b := yn_in (f := fun _ => true) 288
    omega
  refine ⟨lt, ev, dx.2.2, ⟨dx.1, by omega⟩, ⟨by omega, by omega⟩, fun w w1 w2 => ?_, ?_, fun i i0 i1 => ?_⟩
  · by_cases e : w = v
    · subst e
      rw [zv_up_s, zv_up_s]
      exact .inr ⟨by omega, by omega, rfl⟩
    · rw [zv_up_n e, zv_up_n e]
      rcases hd w w1 w2 with a | ⟨a, b, c⟩
      · exact .inl a
      · exact .inr ⟨a, by omega, c⟩
  · rw [← hc]
    refine yn_add (k := v.toNat) ?_ ?_ 288 (by omega) fun j _ hn => ?_
    · show decide (D (v.toNat : Int) ≠ -1) = false
      rw [Int.toNat_of_nonneg v1, hv]; rfl
    · show decide (zv_up D v (D x + 1) (v.toNat : Int) ≠ -1) = true
      rw [Int.toNat_of_nonneg v1, zv_up_s]
      exact decide_eq_true (by omega)
    · show decide (D (j : Int) ≠ -1) = decide (zv_up D v (D x + 1) (j : Int) ≠ -1)
      rw [zv_up_n (by omega)]
  · by_cases e : i = t
    · subst e
      rw [zv_up_s, zv_up_s, zv_up_s]
      exact ⟨rfl, ⟨v1, v2⟩, by omega⟩
    · obtain ⟨a, b, c⟩ := hq i i0 (by omega)
      rw [zv_up_n e, zv_up_n e]
      refine ⟨a, b, ?_⟩
      by_cases w : Q i = v
      · rw [w, zv_up_s]; omega
      · rw [zv_up_n w]; exact c
theorem ym_four (z : yk_sea ts gp gl m) {hd : Int} (h0 : 0 ≤ hd) : ∀ (d : Nat) (k t : Int) (D Q E P : Int → Int) (n : Nat), k + d = 5 → 1 ≤ k → d < n → hd < t → ym_D t D Q E P →
    ∃ t' D' Q' E' P', zf_Pilot_spread_288_l1 (Q hd) gl n t k D Q = some (t', D', Q') ∧ zf_M_sails_288_l2 hd m n t k E P = some (t', E', P') ∧ t ≤ t' ∧ ym_D t' D' Q' E' P' := by
  intro d
  induction d with
  | zero =>
    intro k t D Q E P n e k1 hn ht h
    obtain ⟨n, rfl⟩ : ∃ q, n = q + 1 := ⟨n - 1, by omega⟩
    refine ⟨t, D, Q, E, P, ?_, ?_, Int.le_refl _, h⟩
    · show zf_Pilot_spread_288_l1_b (Q hd) gl (zf_Pilot_spread_288_l1 (Q hd) gl n) t k D Q = _
      unfold zf_Pilot_spread_288_l1_b
      rw [if_neg (by omega)]
    · show zf_M_sails_288_l2_b hd m (zf_M_sails_288_l2 hd m n) t k E P = _
      unfold zf_M_sails_288_l2_b
      rw [if_pos (by omega)]
  | succ d ih =>
    intro k t D Q E P n e k1 hn ht h
    obtain ⟨n, rfl⟩ : ∃ q, n = q + 1 := ⟨n - 1, by omega⟩
    obtain ⟨⟨t1, t2⟩, hdd, hc, hq⟩ := id h
    obtain ⟨q1, ⟨q2, q3⟩, q4⟩ := hq hd h0 ht
    obtain ⟨g1, g2⟩ := yg_go_in (how := k) q2 q3
    show ∃ t' D' Q' E' P', zf_Pilot_spread_288_l1_b (Q hd) gl (zf_Pilot_spread_288_l1 (Q hd) gl n) t k D Q = _ ∧ zf_M_sails_288_l2_b hd m (zf_M_sails_288_l2 hd m n) t k E P = _ ∧ _
    unfold zf_Pilot_spread_288_l1_b zf_M_sails_288_l2_b
    rw [if_pos (show k < 5 by omega), if_neg (show ¬ 4 < k by omega), zl_ci h0 (by omega), ← q1, ze_goFrom z q2 q3, zl_b, ze_goesTo q2 q3, zl_b, zi_w_id (x := k + 1) (by omega) (by omega)]
    have nx := ih (k + 1) t D Q E P n (by omega) (by omega) (by omega) ht h
    by_cases a : yg_go (Q hd) k = -1
    · rw [if_pos (show yg_go (Q hd) k = -1 ∨ yg_ld gl (yg_go (Q hd) k) = true from .inl a), if_pos rfl, if_pos a]
      exact nx
    rw [if_neg a, ze_isLandM z (by omega) (by omega), zl_b]
    by_cases b : yg_ld gl (yg_go (Q hd) k) = true
    · rw [if_pos (show yg_go (Q hd) k = -1 ∨ yg_ld gl (yg_go (Q hd) k) = true from .inr b), if_pos rfl, if_pos b, if_neg (show ¬ (1 : Int) = 0 by decide)]
      exact nx
    rw [if_neg (show ¬ (yg_go (Q hd) k = -1 ∨ yg_ld gl (yg_go (Q hd) k) = true) from fun w => w.elim a b), if_neg a, if_neg b, if_pos rfl, zl_ci (show 0 ≤ yg_go (Q hd) k by omega) (by omega), zl_ci (show 0 ≤ yg_go (Q hd) k by omega) (by omega)]
    by_cases c : D (yg_go (Q hd) k) = -1
    · obtain ⟨lt, ev, ex, ⟨dx1, dx2⟩, hn2⟩ := ym_D_add h q2 q3 q4 (by omega) g2 c
      rw [if_pos c, if_pos lt, if_neg (show ¬ E (yg_go (Q hd) k) < 1000000000 by omega), zl_ci q2 (by omega), zl_ci q2 (by omega), zl_ci (show 0 ≤ t by omega) (by omega), zl_ci (show 0 ≤ t by omega) (by omega), ex, zi_w_id (x := D (Q hd) + 1) (by omega) (by omega), zi_w_id (x := t + 1) (by omega) (by omega)]
      obtain ⟨t', D', Q', E', P', e1, e2, e3, e4⟩ := ih (k + 1) (t + 1) _ _ _ _ n (by omega) (by omega) (by omega) (by omega) hn2
      rw [zv_up_n (show hd ≠ t by omega)] at e1
      exact ⟨t', D', Q', E', P', e1, e2, by omega, e4⟩
    · have e5 : E (yg_go (Q hd) k) < 1000000000 := by
        rcases hdd _ (by omega) g2 with ⟨w, _⟩ | ⟨w1, w2, w3⟩
        · exact absurd w c
        · omega
      rw [if_neg c, if_pos e5]
      exact nx
end YMS
end
section
/-! spread and sails: alike. -/
section YMT
variable {ts : Int} {gp gl m : Int → Int}
theorem ym_spread_l (z : yk_sea ts gp gl m) : ∀ (d : Nat) (k t : Int) (D Q E P : Int → Int) (n : Nat), 288 - k ≤ d → 0 ≤ k → d < n → ym_D t D Q E P →
    ∃ t' D' Q' E' P', zf_Pilot_spread_288_l0 gl n t k D Q = some (D', Q') ∧ zf_M_sails_288_l1 m n t k E P = some (E', P') ∧ ym_D t' D' Q' E' P' := by
  intro d
  induction d with
  | zero =>
    intro k t D Q E P n e k0 hn h
    obtain ⟨n, rfl⟩ : ∃ q, n = q + 1 := ⟨n - 1, by omega⟩
    have ht := h.1
    refine ⟨t, D, Q, E, P, ?_, ?_, h⟩
    · show zf_Pilot_spread_288_l0_b gl (zf_Pilot_spread_288_l0 gl n) t k D Q = _
      unfold zf_Pilot_spread_288_l0_b
      rw [if_neg (by omega)]
    · show zf_M_sails_288_l1_b m (zf_M_sails_288_l1 m n) t k E P = _
      unfold zf_M_sails_288_l1_b
      rw [if_neg (by omega)]
  | succ d ih =>
    intro k t D Q E P n e k0 hn h
    obtain ⟨n, rfl⟩ : ∃ q, n = q + 1 := ⟨n - 1, by omega⟩
    have ht := h.1
    show ∃ t' D' Q' E' P', zf_Pilot_spread_288_l0_b gl (zf_Pilot_spread_288_l0 gl n) t k D Q = _ ∧ zf_M_sails_288_l1_b m (zf_M_sails_288_l1 m n) t k E P = _ ∧ _
    unfold zf_Pilot_spread_288_l0_b zf_M_sails_288_l1_b
    by_cases c : k < t
    · obtain ⟨t1, D1, Q1, E1, P1, e1, e2, e3, e4⟩ := ym_four z k0 4 1 t D Q E P zi_fu (by decide) (by decide) (by decide) c h
      rw [if_pos c, if_pos c, if_pos (show k < 288 by omega), zl_ci k0 (by omega), e1, e2, zl_b, zl_b, zi_w_id (x := k + 1) (by omega) (by omega)]
      exact ih (k + 1) t1 D1 Q1 E1 P1 n (by omega) (by omega) (by omega) e4
    · rw [if_neg c, if_neg c]
      exact ⟨t, D, Q, E, P, rfl, rfl, h⟩
theorem ze_fill288_l0 {v : Int} : ∀ (d : Nat) (j : Int) (g : Int → Int) (n : Nat), j + d = 288 → 0 ≤ j → d < n → ∃ g2, zf_Arrays_fill_288_l0 v 288 n j g = some g2 ∧ (∀ i, j ≤ i → i < 288 → g2 i = v) ∧ ∀ i, i < j → g2 i = g i := by
  intro d
  induction d with
  | zero =>
    intro j g n e _ hn
    obtain ⟨n, rfl⟩ : ∃ q, n = q + 1 := ⟨n - 1, by omega⟩
    refine ⟨g, ?_, fun i _ _ => by omega, fun _ _ => rfl⟩
    show zf_Arrays_fill_288_l0_b v 288 (zf_Arrays_fill_288_l0 v 288 n) j g = _
    unfold zf_Arrays_fill_288_l0_b
    rw [if_neg (by omega)]
  | succ d ih =>
    intro j g n e j0 hn
    obtain ⟨n, rfl⟩ : ∃ q, n = q + 1 := ⟨n - 1, by omega⟩
    obtain ⟨g2, e1, a, b⟩ := ih (j + 1) (zv_up g j v) n (by omega) (by omega) (by omega)
    refine ⟨g2, ?_, fun i i1 i2 => ?_, fun i i1 => ?_⟩
    · show zf_Arrays_fill_288_l0_b v 288 (zf_Arrays_fill_288_l0 v 288 n) j g = _
      unfold zf_Arrays_fill_288_l0_b
      rw [if_pos (by omega), zl_ci j0 (by omega), zi_w_id (x := j + 1) (by omega) (by omega), e1]
    · by_cases q : i = j
      · subst q
        rw [b i (by omega), zv_up_s]
      · exact a i (by omega) i2
    · rw [b i (by omega), zv_up_n (by omega)]
theorem ze_far_l0 : ∀ (d : Nat) (j : Int) (g : Int → Int) (n : Nat), j + d = 288 → 0 ≤ j → d < n → ∃ g2, zf_M_sails_288_l0 n j g = some g2 ∧ (∀ i, j ≤ i → i < 288 → g2 i = 1000000000) ∧ ∀ i, i < j → g2 i = g i := by
  intro d
  induction d with
  | zero =>
    intro j g n e _ hn
    obtain ⟨n, rfl⟩ : ∃ q, n = q + 1 := ⟨n - 1, by omega⟩
    refine ⟨g, ?_, fun i _ _ => by omega, fun _ _ => rfl⟩
    show zf_M_sails_288_l0_b (zf_M_sails_288_l0 n) j g = _
    unfold zf_M_sails_288_l0_b
    rw [if_neg (by omega)]
  | succ d ih =>
    intro j g n e j0 hn
    obtain ⟨n, rfl⟩ : ∃ q, n = q + 1 := ⟨n - 1, by omega⟩
    obtain ⟨g2, e1, a, b⟩ := ih (j + 1) (zv_up g j 1000000000) n (by omega) (by omega) (by omega)
    refine ⟨g2, ?_, fun i i1 i2 => ?_, fun i i1 => ?_⟩
    · show zf_M_sails_288_l0_b (zf_M_sails_288_l0 n) j g = _
      unfold zf_M_sails_288_l0_b
      rw [if_pos (by omega), zl_ci j0 (by omega), zi_w_id (x := j + 1) (by omega) (by omega), e1]
    · by_cases q : i = j
      · subst q
        rw [b i (by omega), zv_up_s]
      · exact a i (by omega) i2
    · rw [b i (by omega), zv_up_n (by omega)]
theorem yn_zero {f : Nat → Bool} : ∀ n : Nat, (∀ j, j < n → f j = false) → yn_n f n = 0
  | 0, _ => rfl
  | n + 1, h => by
    show yn_n f n + (if f n = true then 1 else 0) = 0
    rw [yn_zero n fun j hj => h j (by omega), h n (by omega)]; rfl
theorem ym_spread (z : yk_sea ts gp gl m) {x : Int} (x1 : 0 ≤ x) (x2 : x < 288) {g0 g1 h0 h1 : Int → Int} : ∃ t D Q E P, zf_Pilot_spread_288 x g0 g1 gl = some (D, Q) ∧ zf_M_sails_288 x h0 h1 m = some (E, P) ∧ ym_D t D Q E P := by
  obtain ⟨D0, e0, a0, -⟩ := ze_fill288_l0 (v := -1) 288 0 g0 zi_fu (by decide) (by decide) (by decide)
  obtain ⟨E0, f0, b0, -⟩ := ze_far_l0 288 0 h0 zi_fu (by decide) (by decide) (by decide)
  have hi : ym_D 1 (zv_up D0 x 0) (zv_up g1 0 x) (zv_up E0 x 0) (zv_up h1 0 x) := by
    refine ⟨⟨by decide, by decide⟩, fun v v1 v2 => ?_, ?_, fun i i0 i1 => ?_⟩
    · by_cases w : v = x
      · subst w; rw [zv_up_s, zv_up_s]; exact .inr ⟨by decide, by decide, rfl⟩
      · rw [zv_up_n w, zv_up_n w]; exact .inl ⟨a0 v v1 v2, b0 v v1 v2⟩
    · have zz : yn_n (fun j : Nat => decide (D0 j ≠ -1)) 288 = 0 := yn_zero 288 fun j hj => by
        show decide (D0 (j : Int) ≠ -1) = false
        rw [a0 j (by omega) (by omega)]; rfl
      rw [yn_add (f := fun j : Nat => decide (D0 j ≠ -1)) (k := x.toNat) ?_ ?_ 288 (by omega) fun j _ hn => ?_, zz]
      · rfl
      · show decide (D0 (x.toNat : Int) ≠ -1) = false
        rw [a0 _ (by omega) (by omega)]; rfl
      · show decide (zv_up D0 x 0 (x.toNat : Int) ≠ -1) = true
        rw [Int.toNat_of_nonneg x1, zv_up_s]; rfl
      · show decide (D0 (j : Int) ≠ -1) = decide (zv_up D0 x 0 (j : Int) ≠ -1)
        rw [zv_up_n (by omega)]
    · obtain rfl : i = 0 := by omega
      rw [zv_up_s, zv_up_s, zv_up_s]
      exact ⟨rfl, ⟨x1, x2⟩, by decide⟩
  obtain ⟨t, D, Q, E, P, e1, e2, h⟩ := ym_spread_l z 288 0 1 _ _ _ _ zi_fu (by decide) (by decide) (by decide) hi
  refine ⟨t, D, Q, E, P, ?_, ?_, h⟩
  · unfold zf_Pilot_spread_288 zf_Arrays_fill_288
    rw [e0, zl_b, zl_b, zl_ci x1 (by omega), e1, zl_b]
  · unfold zf_M_sails_288
    rw [f0, zl_b, zl_ci x1 (by omega), e2, zl_b]
end YMT
end
section
/-! The place where two ships meet: alike. -/
section YMM
def ym_R (D E : Int → Int) : Prop := ∀ v, 0 ≤ v → v < 288 → (D v = -1 ∧ E v = 1000000000) ∨ (0 ≤ D v ∧ D v < 288 ∧ E v = D v)
theorem ym_R_of {t : Int} {D Q E P : Int → Int} (h : ym_D t D Q E P) : ym_R D E := fun v v1 v2 => by
  have ht := h.1
  rcases h.2.1 v v1 v2 with a | ⟨a, b, c⟩
  · exact .inl a
  · exact .inr ⟨a, by omega, c⟩
theorem ze_hoursTo {D F : Int → Int} {v : Int} (v1 : 0 ≤ v) (v2 : v < 288) : zf_Pilot_hoursTo v D F = some (if D v < F v then F v else D v) := by
  unfold zf_Pilot_hoursTo
  rw [zl_ci v1 (by omega), ze_Math_max, zl_b]
theorem ym_meet_l {D E F H : Int → Int} (a : ym_R D E) (b : ym_R F H) : ∀ (d : Nat) (j p c : Int) (n : Nat), j + d = 288 → 0 ≤ j → d < n → ((p = -1 ∧ c = 0 ∧ ∀ i, 0 ≤ i → i < j → D i = -1 ∨ F i = -1) ∨ (p = c ∧ 0 ≤ p ∧ p < 288 ∧ D p ≠ -1 ∧ F p ≠ -1)) →
    ∃ p' c', zf_Pilot_meetingPlace_l0 D F n p j = some p' ∧ zf_M_meeting_l0 E H n c j = some c' ∧ ((p' = -1 ∧ c' = 0 ∧ (D 0 = -1 ∨ F 0 = -1)) ∨ (p' = c' ∧ 0 ≤ p' ∧ p' < 288 ∧ D p' ≠ -1 ∧ F p' ≠ -1)) := by
  intro d
  induction d with
  | zero =>
    intro j p c n e j0 hn h
    obtain ⟨n, rfl⟩ : ∃ q, n = q + 1 := ⟨n - 1, by omega⟩
    refine ⟨p, c, ?_, ?_, ?_⟩
    · show zf_Pilot_meetingPlace_l0_b D F (zf_Pilot_meetingPlace_l0 D F n) p j = _
      unfold zf_Pilot_meetingPlace_l0_b
      rw [if_neg (by omega)]
    · show zf_M_meeting_l0_b E H (zf_M_meeting_l0 E H n) c j = _
      unfold zf_M_meeting_l0_b
      rw [if_neg (by omega)]
    · rcases h with ⟨h1, h2, h3⟩ | h
      · exact .inl ⟨h1, h2, h3 0 (by decide) (by omega)⟩
      · exact .inr h
  | succ d ih =>
    intro j p c n e j0 hn h
    obtain ⟨n, rfl⟩ : ∃ q, n = q + 1 := ⟨n - 1, by omega⟩
    have c0 : 0 ≤ c ∧ c < 288 := by rcases h with ⟨_, h2, _⟩ | ⟨h1, h2, h3, _⟩ <;> omega
    have aj := a j j0 (by omega)
    have bj := b j j0 (by omega)
    have ac := a c c0.1 c0.2
    have bc := b c c0.1 c0.2
    show ∃ p' c', zf_Pilot_meetingPlace_l0_b D F (zf_Pilot_meetingPlace_l0 D F n) p j = _ ∧ zf_M_meeting_l0_b E H (zf_M_meeting_l0 E H n) c j = _ ∧ _
    unfold zf_Pilot_meetingPlace_l0_b zf_M_meeting_l0_b
    rw [if_pos (show j < 288 by omega), if_pos (show j < 288 by omega), zl_ci j0 (by omega), zl_ci j0 (by omega), ze_mm, zl_b, zl_ci c0.1 (by omega), ze_mm, zl_b, zi_w_id (x := j + 1) (by omega) (by omega)]
    by_cases u : D j = -1 ∨ F j = -1
    · have hM : ¬ (if H j < E j then E j else H j) < (if H c < E c then E c else H c) := by
        have : (if H j < E j then E j else H j) = 1000000000 := by split <;> omega
        rw [this]; split <;> omega
      rw [if_neg hM]
      have nx := ih (j + 1) p c n (by omega) (by omega) (by omega) (by
        rcases h with ⟨h1, h2, h3⟩ | h
        · refine .inl ⟨h1, h2, fun i i0 i1 => ?_⟩
          by_cases w : i = j
          · subst w; exact u
          · exact h3 i i0 (by omega)
        · exact .inr h)
      by_cases u1 : D j = -1
      · rw [if_pos u1]; exact nx
      · rw [if_neg u1, if_pos (u.resolve_left u1)]; exact nx
    · rw [if_neg (fun w => u (.inl w)), if_neg (fun w => u (.inr w))]
      have u1 : D j ≠ -1 := fun w => u (.inl w)
      have u2 : F j ≠ -1 := fun w => u (.inr w)
      have go := fun p2 : Int => fun (q0 : 0 ≤ p2) (q1 : p2 < 288) (q2 : D p2 ≠ -1) (q3 : F p2 ≠ -1) => ih (j + 1) p2 p2 n (by omega) (by omega) (by omega) (.inr ⟨rfl, q0, q1, q2, q3⟩)
      rcases h with ⟨h1, h2, h3⟩ | ⟨h1, h2, h3, h4, h5⟩
      · rw [if_pos h1]
        by_cases w : j = 0
        · have hM : ¬ (if H j < E j then E j else H j) < (if H c < E c then E c else H c) := by
            rw [w, h2]; omega
          have hcj : c = j := by omega
          rw [if_neg hM, hcj]
          exact go j j0 (by omega) u1 u2
        · have hc := h3 c (by omega) (by omega)
          have hM : (if H j < E j then E j else H j) < (if H c < E c then E c else H c) := by
            have : (if H c < E c then E c else H c) = 1000000000 := by split <;> omega
            rw [this]; split <;> omega
          rw [if_pos hM]
          exact go j j0 (by omega) u1 u2
      · subst h1
        rw [if_neg (show ¬ p = -1 by omega), ze_hoursTo j0 (by omega), zl_b, ze_hoursTo h2 h3, zl_b]
        have x1 : (if H j < E j then E j else H j) = (if D j < F j then F j else D j) := by split <;> split <;> omega
        have x2 : (if H p < E p then E p else H p) = (if D p < F p then F p else D p) := by split <;> split <;> omega
        rw [x1, x2]
        by_cases w : (if D j < F j then F j else D j) < (if D p < F p then F p else D p)
        · rw [if_pos w, if_pos w]
          exact go j j0 (by omega) u1 u2
        · rw [if_neg w, if_neg w]
          exact go p h2 h3 h4 h5
end YMM
end
section
/-! Loops that end; the matcher's functions answer. -/
theorem zh_loop {α β : Type} {F : Nat → Int → α → Option β} {N : Int} {I : Int → α → Prop} {P : β → Prop}
    (hs : ∀ (n : Nat) (i : Int) (a : α), 0 ≤ i → i ≤ N → I i a → (∀ a', i < N → I (i + 1) a' → zh_ok (F n (i + 1) a') P) → zh_ok (F (n + 1) i a) P) :
    ∀ (d : Nat) (i : Int) (a : α) (n : Nat), N - i ≤ d → 0 ≤ i → i ≤ N → d < n → I i a → zh_ok (F n i a) P := by
  intro d
  induction d with
  | zero =>
    intro i a n e i0 i1 hn h
    obtain ⟨n, rfl⟩ : ∃ q, n = q + 1 := ⟨n - 1, by omega⟩
    exact hs n i a i0 i1 h fun a' hlt _ => by omega
  | succ d ih =>
    intro i a n e i0 i1 hn h
    obtain ⟨n, rfl⟩ : ∃ q, n = q + 1 := ⟨n - 1, by omega⟩
    exact hs n i a i0 i1 h fun a' hlt h' => ih (i + 1) a' n (by omega) (by omega) (by omega) (by omega) h'
theorem zh_ite {α : Type} {c : Prop} {dc : Decidable c} {x y : Option α} {P : α → Prop} (h1 : c → zh_ok x P) (h2 : ¬ c → zh_ok y P) : zh_ok (@ite (Option α) c dc x y) P := by
  by_cases h : c
  · rw [if_pos h]; exact h1 h
  · rw [if_neg h]; exact h2 h
theorem zh_t {α : Type} {x : Option α} {a : α} (h : x = some a) : zh_ok x fun _ => True := ⟨a, h, trivial⟩
theorem zh_bc {x : Int} : zh_ok (zf_Integer_bitCount x) fun _ => True := zh_t rfl
theorem zh_w1 {α : Type} {f : Int → Option α} {P : α → Prop} {i N : Int} (i0 : 0 ≤ i) (hi : i < N) (hN : N ≤ 1000000) (h : zh_ok (f (i + 1)) P) : zh_ok (f (zi_w (i + 1))) P := by
  rw [zi_w_id (x := i + 1) (by omega) (by omega)]; exact h
theorem zh_sum {α β γ : Type} {x : Option (α ⊕ β)} {f : α → Option γ} {g : β → Option γ} {Q : α ⊕ β → Prop} {P : γ → Prop} (h : zh_ok x Q) (h1 : ∀ a, Q (.inl a) → zh_ok (f a) P) (h2 : ∀ b, Q (.inr b) → zh_ok (g b) P) : zh_ok (x.bind fun q => Sum.elim f g q) P := by
  obtain ⟨o, rfl, q⟩ := h
  cases o with
  | inl a => exact h1 a q
  | inr b => exact h2 b q
def yw_so (g : Int → Int) : Prop := ∀ k, 0 ≤ k → k < 8 → 0 ≤ g k ∧ g k ≤ 23
theorem yw_so_up {g : Int → Int} {k v : Int} (h : yw_so g) (v0 : 0 ≤ v) (v1 : v ≤ 23) : yw_so (zv_up g k v) := fun j j0 j1 => by
  by_cases e : j = k
  · subst e; rw [zv_up_s]; omega
  · rw [zv_up_n e]; exact h j j0 j1
theorem yw_withLegs {x1 x2 : Int} {g0 : Int → Int} : zh_ok (zf_Matcher_withLegs x1 x2 g0) fun _ => True := by
  refine zh_bind (Q := fun _ => True) (zh_loop (F := fun n i (a : Int) => zf_Matcher_withLegs_l0 x1 x2 g0 n a i) (N := 24) (I := fun _ _ => True) (fun n i a i0 i1 _ k => ?_) 24 0 0 zi_fu (by decide) (by decide) (by decide) (by decide) trivial) fun o _ => zh_ret trivial
  show zh_ok (zf_Matcher_withLegs_l0_b x1 x2 g0 (zf_Matcher_withLegs_l0 x1 x2 g0 n) a i) _
  unfold zf_Matcher_withLegs_l0_b
  refine zh_ite (fun hi => ?_) fun _ => zh_ret trivial
  rw [zi_w_id (x := i + 1) (by omega) (by omega)]
  refine zh_ite (fun _ => k _ hi trivial) fun _ => zh_cond (zi_ix_of i0 (by omega)) (zh_bind zh_bc fun r4 _ => zh_ite (fun _ => k _ hi trivial) fun _ => k _ hi trivial)
theorem yw_begin {x2 f2 : Int} {g0 g1 g2 g3 : Int → Int} : zh_ok (zf_Matcher_begin_24 x2 f2 g0 g1 g2 g3) fun _ => True := by
  unfold zf_Matcher_begin_24
  refine zh_bind (Q := fun _ => True) (zh_loop (F := fun n i (a : Int → Int) => zf_Matcher_begin_24_l0 x2 g0 g2 n i a) (N := 8) (I := fun _ _ => True) (fun n i a i0 i1 _ k => ?_) 8 0 g1 zi_fu (by decide) (by decide) (by decide) (by decide) trivial) fun o _ =>
    zh_bind (Q := fun _ => True) (zh_loop (F := fun n i (a : Int → Int) => zf_Matcher_begin_24_l1 x2 g0 n i a) (N := 24) (I := fun _ _ => True) (fun n i a i0 i1 _ k => ?_) 24 0 g3 zi_fu (by decide) (by decide) (by decide) (by decide) trivial) fun o _ => zh_ret trivial
  · show zh_ok (zf_Matcher_begin_24_l0_b x2 g0 g2 (zf_Matcher_begin_24_l0 x2 g0 g2 n) i a) _
    unfold zf_Matcher_begin_24_l0_b
    refine zh_ite (fun hi => ?_) fun _ => zh_ret trivial
    rw [zi_w_id (x := i + 1) (by omega) (by omega)]
    exact zh_cond (zi_ix_of i0 (by omega)) (zh_bind zh_bc fun r3 _ => zh_bind yw_withLegs fun r4 _ => zh_cond (zi_ix_of i0 (by omega)) (k _ hi trivial))
  · show zh_ok (zf_Matcher_begin_24_l1_b x2 g0 (zf_Matcher_begin_24_l1 x2 g0 n) i a) _
    unfold zf_Matcher_begin_24_l1_b
    refine zh_ite (fun hi => ?_) fun _ => zh_ret trivial
    rw [zi_w_id (x := i + 1) (by omega) (by omega)]
    refine zh_cond (zi_ix_of i0 (by omega)) (zh_bind (Q := fun _ => True) (zh_loop (F := fun n j (a : Int → Int) => zf_Matcher_begin_24_l2 x2 i g0 n j a) (N := i) (I := fun _ _ => True) (fun n j a j0 j1 _ k2 => ?_) 24 0 _ zi_fu (by omega) (by decide) i0 (by decide) trivial) fun q _ => k _ hi trivial)
    show zh_ok (zf_Matcher_begin_24_l2_b x2 i g0 (zf_Matcher_begin_24_l2 x2 i g0 n) j a) _
    unfold zf_Matcher_begin_24_l2_b
    refine zh_ite (fun hj => ?_) fun _ => zh_ret trivial
    rw [zi_w_id (x := j + 1) (by omega) (by omega)]
    exact zh_ite (fun _ => zh_ret trivial) fun _ => zh_cond (zi_ix_of i0 (by omega)) (zh_cond (zi_ix_of j0 (by omega)) (zh_ite (fun _ => zh_ite (fun _ => k2 _ hj trivial) fun _ => k2 _ hj trivial) fun _ => k2 _ hj trivial))
theorem yw_tightest {x1 x2 : Int} {g0 g1 : Int → Int} (h1 : 0 ≤ x1) (h2 : x1 < 8) : zh_ok (zf_Matcher_tightest x1 x2 g0 g1) fun r => 0 ≤ r ∧ r < 8 := by
  refine zh_bind (Q := fun r => 0 ≤ r ∧ r < 8) (zh_loop (F := fun n i (a : Int × Int) => zf_Matcher_tightest_l0 x1 x2 g0 g1 n a.1 a.2 i) (N := 8) (I := fun _ a => 0 ≤ a.1 ∧ a.1 < 8) (fun n i a i0 i1 ha k => ?_) 8 0 (0, 200) zi_fu (by decide) (by decide) (by decide) (by decide) ⟨by decide, by decide⟩) fun o ho => zh_ret ho
  show zh_ok (zf_Matcher_tightest_l0_b x1 x2 g0 g1 (zf_Matcher_tightest_l0 x1 x2 g0 g1 n) a.1 a.2 i) _
  unfold zf_Matcher_tightest_l0_b
  refine zh_ite (fun hi => ?_) fun _ => zh_ret ha
  rw [zi_w_id (x := i + 1) (by omega) (by omega), zi_w_id (x := x1 * 8) (by omega) (by omega), zi_w_id (x := x1 * 8 + i) (by omega) (by omega)]
  exact zh_ite (fun _ => k a hi ha) fun _ => zh_cond (zi_ix_of (by omega) (by omega)) (zh_bind zh_bc fun r4 _ => zh_cond (zi_ix_of i0 (by omega)) (zh_bind zh_bc fun r6 _ => zh_ite (fun _ => k (_, _) hi ⟨i0, hi⟩) fun _ => k a hi ha))
theorem yw_narrow {x1 x2 x3 x4 : Int} {g0 g1 g2 : Int → Int} (h1 : 0 ≤ x1) (h2 : x1 < 8) (a1 : 0 ≤ x3) (a2 : x3 < 8) (b1 : 0 ≤ x4) (b2 : x4 < 24) : zh_ok (zf_Matcher_narrow x1 x2 x3 x4 g0 g1 g2) fun _ => True := by
  unfold zf_Matcher_narrow
  rw [zi_w_id (x := x1 * 8) (by omega) (by omega), zi_w_id (x := x1 * 8 + 8) (by omega) (by omega)]
  refine zh_sum (Q := fun _ => True) (zh_loop (F := fun n i (a : Int → Int) => zf_Matcher_narrow_l0 x2 x3 x4 (x1 * 8) (x1 * 8 + 8) g1 g2 n i a) (N := 8) (I := fun _ _ => True) (fun n i a i0 i1 _ k => ?_) 8 0 g0 zi_fu (by decide) (by decide) (by decide) (by decide) trivial) (fun a _ => zh_ret trivial) fun b _ => zh_ret trivial
  show zh_ok (zf_Matcher_narrow_l0_b x2 x3 x4 (x1 * 8) (x1 * 8 + 8) g1 g2 (zf_Matcher_narrow_l0 x2 x3 x4 (x1 * 8) (x1 * 8 + 8) g1 g2 n) i a) _
  unfold zf_Matcher_narrow_l0_b
  refine zh_ite (fun hi => ?_) fun _ => zh_ret trivial
  rw [zi_w_id (x := i + 1) (by omega) (by omega), zi_w_id (x := x1 * 8 + i) (by omega) (by omega), zi_w_id (x := x1 * 8 + 8 + i) (by omega) (by omega)]
  exact zh_ite (fun _ => k _ hi trivial) fun _ => zh_cond (zi_ix_of (by omega) (by omega)) (zh_cond (zi_ix_of a1 (by omega)) (zh_ite (fun _ => zh_ite (fun _ => zh_ret trivial) fun _ => zh_cond (zi_ix_of (by omega) (by omega)) (k _ hi trivial)) fun _ => zh_cond (zi_ix_of b1 (by omega)) (zh_ite (fun _ => zh_ret trivial) fun _ => zh_cond (zi_ix_of (by omega) (by omega)) (k _ hi trivial))))
theorem yw_besides {x1 : Int} {g0 : Int → Int} : zh_ok (zf_Matcher_besides x1 g0) fun _ => True := by
  refine zh_bind (Q := fun _ => True) (zh_loop (F := fun n i (a : Int) => zf_Matcher_besides_l0 x1 g0 n a i) (N := 24) (I := fun _ _ => True) (fun n i a i0 i1 _ k => ?_) 24 0 0 zi_fu (by decide) (by decide) (by decide) (by decide) trivial) fun o _ => zh_ret trivial
  show zh_ok (zf_Matcher_besides_l0_b x1 g0 (zf_Matcher_besides_l0 x1 g0 n) a i) _
  unfold zf_Matcher_besides_l0_b
  refine zh_ite (fun hi => ?_) fun _ => zh_ret trivial
  rw [zi_w_id (x := i + 1) (by omega) (by omega)]
  exact zh_ite (fun _ => k _ hi trivial) fun _ => zh_cond (zi_ix_of i0 (by omega)) (k _ hi trivial)
theorem yw_agree2 {x1 x7 v : Int} {g1 g2 : Int → Int} (h1 : 0 ≤ x1) (h2 : x1 ≤ 64) : zh_ok (zf_Matcher_agree_l2 x1 x7 g1 g2 zi_fu v 0) fun _ => True := by
  refine zh_loop (F := fun n i (a : Int) => zf_Matcher_agree_l2 x1 x7 g1 g2 n a i) (N := 8) (I := fun _ _ => True) (fun n i a i0 i1 _ k => ?_) 8 0 v zi_fu (by decide) (by decide) (by decide) (by decide) trivial
  show zh_ok (zf_Matcher_agree_l2_b x1 x7 g1 g2 (zf_Matcher_agree_l2 x1 x7 g1 g2 n) a i) _
  unfold zf_Matcher_agree_l2_b
  refine zh_ite (fun hi => ?_) fun _ => zh_ret trivial
  rw [zi_w_id (x := i + 1) (by omega) (by omega), zi_w_id (x := x1 + i) (by omega) (by omega)]
  exact zh_ite (fun _ => k _ hi trivial) fun _ => zh_cond (zi_ix_of (by omega) (by omega)) (zh_bind yw_besides fun _ _ => k _ hi trivial)
theorem yw_agree {x1 x2 : Int} {g0 g1 g2 : Int → Int} (h1 : 0 ≤ x1) (h2 : x1 ≤ 8) : zh_ok (zf_Matcher_agree x1 x2 g0 g1 g2) fun _ => True := by
  unfold zf_Matcher_agree
  rw [zi_w_id (x := x1 * 8) (by omega) (by omega)]
  obtain ⟨x3, e3⟩ : ∃ x3, x3 = x1 * 8 := ⟨_, rfl⟩
  rw [← e3]
  refine zh_sum (Q := fun _ => True) (zh_loop (F := fun n i (a : Int × (Int → Int)) => zf_Matcher_agree_l0 x2 x3 g0 g2 n a.1 i a.2) (N := 192) (I := fun _ _ => True) (fun n i a i0 i1 _ k => ?_) 192 0 (1, g1) zi_fu (by decide) (by decide) (by decide) (by decide) trivial) (fun a _ => zh_ret trivial) fun b _ => zh_ret trivial
  show zh_ok (zf_Matcher_agree_l0_b x2 x3 g0 g2 (zf_Matcher_agree_l0 x2 x3 g0 g2 n) a.1 i a.2) _
  unfold zf_Matcher_agree_l0_b
  refine zh_ite (fun hi => ?_) fun _ => zh_ret trivial
  rw [zi_w_id (x := i + 1) (by omega) (by omega)]
  refine zh_ite (fun _ => zh_ret trivial) fun _ => zh_sum (Q := fun _ => True) (zh_loop (F := fun n j (a : Int × (Int → Int)) => zf_Matcher_agree_l1 x2 x3 g0 g2 n a.1 j a.2) (N := 8) (I := fun _ _ => True) (fun n j a j0 j1 _ k2 => ?_) 8 0 (0, a.2) zi_fu (by decide) (by decide) (by decide) (by decide) trivial) (fun a _ => k (_, _) hi trivial) fun b _ => zh_ret trivial
  show zh_ok (zf_Matcher_agree_l1_b x2 x3 g0 g2 (zf_Matcher_agree_l1 x2 x3 g0 g2 n) a.1 j a.2) _
  unfold zf_Matcher_agree_l1_b
  refine zh_ite (fun hj => ?_) fun _ => zh_ret trivial
  rw [zi_w_id (x := j + 1) (by omega) (by omega), zi_w_id (x := x3 + j) (by omega) (by omega)]
  have kk : ∀ a b, zh_ok (zf_Matcher_agree_l1 x2 x3 g0 g2 n a (j + 1) b) fun _ => True := fun a b => k2 (a, b) hj trivial
  exact zh_ite (fun _ => zh_cond (zi_ix_of (by omega) (by omega)) (zh_bind (yw_agree2 (by omega) (by omega)) fun q _ => zh_ite (fun _ => zh_ite (fun _ => kk _ _) fun _ => kk _ _) fun _ => kk _ _))
    fun _ => zh_cond (zi_ix_of j0 (by omega)) (zh_cond (zi_ix_of (by omega) (by omega)) (zh_bind (yw_agree2 (by omega) (by omega)) fun q _ => zh_ite (fun _ => zh_ite (fun _ => zh_ite (fun _ => kk _ _) fun _ => kk _ _) fun _ => kk _ _) fun _ => zh_ite (fun _ => zh_ret trivial) fun _ => zh_ite (fun _ => zh_ite (fun _ => kk _ _) fun _ => kk _ _) fun _ => kk _ _))
theorem yw_search_g {g1 g2 g4 : Int → Int} : ∀ (n w : Nat) (x1 x2 x3 f2 : Int) (g0 g3 : Int → Int), 0 ≤ x1 → x1 ≤ 8 → 8 - x1 < n → yw_so g3 → zh_ok (zg_Matcher_search n w x1 x2 x3 f2 g0 g1 g2 g3 g4) fun o => yw_so o.2.2.2 := by
  intro n
  induction n with
  | zero => intro w x1 x2 x3 f2 g0 g3 h1 h2 h3 h4; omega
  | succ n ih =>
    intro w x1 x2 x3 f2 g0 g3 h1 h2 h3 h4
    show zh_ok (zm_Matcher_search (zg_Matcher_search n) x1 x2 x3 f2 g0 g1 g2 g3 g4) _
    unfold zm_Matcher_search
    refine zh_ite (fun _ => zh_ret h4) fun _ => zh_ite (fun h8 => ?_) fun _ => zh_ret h4
    refine zh_bind (yw_tightest h1 h8) fun r4 hr => ?_
    obtain ⟨r0, r1⟩ := hr
    rw [zi_w_id (x := x1 * 8) (by omega) (by omega), zi_w_id (x := x1 * 8 + r4) (by omega) (by omega)]
    refine zh_cond (zi_ix_of (by omega) (by omega)) (zh_bind (Q := fun q => yw_so q.2.2.2) ?_ fun q hq => ?_)
    · refine zh_loop (F := fun n2 i (a : Int × Int × Int × (Int → Int) × (Int → Int)) => zm_Matcher_search_l0 (zg_Matcher_search n) x1 x3 r4 (zi_and x2 (zi_xor (zi_shl 1 r4) (-1))) g1 g2 g4 n2 a.1 a.2.1 i a.2.2.1 a.2.2.2.1 a.2.2.2.2) (N := 24) (I := fun _ a => yw_so a.2.2.2.2) (fun n2 i a i0 i1 ha k => ?_) 24 0 (_, 0, f2, g0, g3) zi_fu (by decide) (by decide) (by decide) (by decide) h4
      show zh_ok (zm_Matcher_search_l0_b (zg_Matcher_search n) x1 x3 r4 (zi_and x2 (zi_xor (zi_shl 1 r4) (-1))) g1 g2 g4 (zm_Matcher_search_l0 (zg_Matcher_search n) x1 x3 r4 (zi_and x2 (zi_xor (zi_shl 1 r4) (-1))) g1 g2 g4 n2) a.1 a.2.1 i a.2.2.1 a.2.2.2.1 a.2.2.2.2) _
      unfold zm_Matcher_search_l0_b
      refine zh_ite (fun hi => ?_) fun _ => zh_ret ha
      rw [zi_w_id (x := i + 1) (by omega) (by omega), zi_w_id (x := x1 + 1) (by omega) (by omega)]
      have kk : ∀ b c d e (g : Int → Int), yw_so g → zh_ok (zm_Matcher_search_l0 (zg_Matcher_search n) x1 x3 r4 (zi_and x2 (zi_xor (zi_shl 1 r4) (-1))) g1 g2 g4 n2 b c (i + 1) d e g) fun q => yw_so q.2.2.2 := fun b c d e g hg => k (b, c, d, e, g) hi hg
      refine zh_ite (fun _ => ?_) fun _ => zh_ret ha
      refine zh_ite (fun _ => kk _ _ _ _ _ ha) fun _ => ?_
      have hu := yw_so_up (k := r4) ha i0 (by omega)
      refine zh_cond (zi_ix_of i0 (by omega)) (zh_bind zh_bc fun r10 _ => zh_cond (zi_ix_of r0 (by omega)) (zh_bind (yw_narrow h1 h8 r0 r1 i0 (by omega)) fun r12 _ => zh_ite (fun _ => kk _ _ _ _ _ hu) fun _ => zh_ite (fun _ => ?_) fun _ => ?_))
      · exact zh_bind (ih 0 (x1 + 1) _ _ _ _ _ (by omega) (by omega) (by omega) hu) fun r15 h15 => kk _ _ _ _ _ h15
      · exact zh_bind (yw_agree (by omega) (by omega)) fun r16 _ => zh_ite (fun _ => kk _ _ _ _ _ hu) fun _ => zh_bind (ih 0 (x1 + 1) _ _ _ _ _ (by omega) (by omega) (by omega) hu) fun r18 h18 => kk _ _ _ _ _ h18
    · rw [ze_Math_min, zl_b]
      exact zh_ret hq
theorem yw_search {x2 x3 f2 : Int} {g0 g1 g2 g3 g4 : Int → Int} (h : yw_so g3) : zh_ok (zf_Matcher_search 0 x2 x3 f2 g0 g1 g2 g3 g4) fun o => yw_so o.2.2.2 := yw_search_g 9 0 0 x2 x3 f2 g0 g3 (by decide) (by decide) (by decide) h
theorem yw_count {x2 x4 f2 f3 : Int} {g0 g1 g2 g3 g4 : Int → Int} (h : yw_so g4) : zh_ok (zf_Matcher_countWays_24 x2 x4 f2 f3 g0 g1 g2 g3 g4) fun o => yw_so o.2.2.2.2 := by
  unfold zf_Matcher_countWays_24
  exact zh_bind yw_begin fun r1 _ => zh_bind (yw_search h) fun r2 h2 => zh_ret h2
theorem yw_settle {x1 f1 f3 : Int} {g0 g1 g2 g3 g4 : Int → Int} (h1 : 0 ≤ x1) (h2 : x1 < 8) (h : yw_so g3) : zh_ok (zf_Matcher_settleLowest x1 f1 f3 g0 g1 g2 g3 g4) fun o => yw_so o.2.2.2 := by
  unfold zf_Matcher_settleLowest
  refine zh_cond (zi_ix_of h1 (by omega)) (zh_sum (Q := fun q => match q with
    | .inl a => yw_so a.2.2
    | .inr b => yw_so b.2.2.2) (zh_loop (F := fun n i (a : Int × (Int → Int) × (Int → Int)) => zf_Matcher_settleLowest_l0 x1 (g0 x1) f1 g1 g2 g4 n i a.1 a.2.1 a.2.2) (N := 24) (I := fun _ a => yw_so a.2.2) (fun n i a i0 i1 ha k => ?_) 24 0 (f3, g0, g3) zi_fu (by decide) (by decide) (by decide) (by decide) h) (fun a ha => zh_ret ha) fun b hb => zh_ret hb)
  show zh_ok (zf_Matcher_settleLowest_l0_b x1 (g0 x1) f1 g1 g2 g4 (zf_Matcher_settleLowest_l0 x1 (g0 x1) f1 g1 g2 g4 n) i a.1 a.2.1 a.2.2) _
  unfold zf_Matcher_settleLowest_l0_b
  refine zh_ite (fun hi => ?_) fun _ => zh_ret ha
  rw [zi_w_id (x := i + 1) (by omega) (by omega)]
  exact zh_ite (fun _ => k a hi ha) fun _ => zh_cond (zi_ix_of h1 (by omega)) (zh_bind (yw_search ha) fun r5 h5 => zh_ite (fun _ => zh_ret h5) fun _ => k (_, _, _) hi h5)
theorem yw_first {x2 f2 f3 : Int} {g0 g1 g2 g3 g4 : Int → Int} (h : yw_so g4) : zh_ok (zf_Matcher_findFirst_24 x2 f2 f3 g0 g1 g2 g3 g4) fun o => yw_so o.2.2.2.2 := by
  unfold zf_Matcher_findFirst_24
  refine zh_bind yw_begin fun r1 _ => zh_sum (Q := fun q => match q with
    | .inl a => yw_so a.2.2
    | .inr b => yw_so b.2.2.2.2) (zh_loop (F := fun n i (a : Int × (Int → Int) × (Int → Int)) => zf_Matcher_findFirst_24_l0 f3 g0 g2 r1.2.2 n i a.1 a.2.1 a.2.2) (N := 8) (I := fun _ a => yw_so a.2.2) (fun n i a i0 i1 ha k => ?_) 8 0 (_, _, g4) zi_fu (by decide) (by decide) (by decide) (by decide) h) (fun a ha => zh_ret ha) fun b hb => zh_ret hb
  show zh_ok (zf_Matcher_findFirst_24_l0_b f3 g0 g2 r1.2.2 (zf_Matcher_findFirst_24_l0 f3 g0 g2 r1.2.2 n) i a.1 a.2.1 a.2.2) _
  unfold zf_Matcher_findFirst_24_l0_b
  refine zh_ite (fun hi => ?_) fun _ => zh_ret ha
  rw [zi_w_id (x := i + 1) (by omega) (by omega)]
  exact zh_ite (fun _ => k a hi ha) fun _ => zh_bind (yw_settle i0 (by omega) ha) fun r4 h4 => zh_ite (fun _ => zh_ret h4) fun _ => k (_, _, _) hi h4
theorem yw_standing {x1 f0 : Int} {g0 : Int → Int} (h1 : 0 ≤ x1) (h2 : x1 ≤ 23) : zh_ok (zf_Sky_standing x1 f0 g0) fun _ => True := zh_cond (zi_ix_of h1 (by omega)) (zh_ret trivial)
theorem yw_notIn {x1 f0 f2 : Int} {g0 : Int → Int} : zh_ok (zf_Matcher_notIn x1 f0 f2 g0) fun _ => True := by
  refine zh_bind (Q := fun _ => True) (zh_loop (F := fun n i (a : Int) => zf_Matcher_notIn_l0 x1 f0 f2 g0 n a i) (N := 24) (I := fun _ _ => True) (fun n i a i0 i1 _ k => ?_) 24 0 0 zi_fu (by decide) (by decide) (by decide) (by decide) trivial) fun o _ => zh_ret trivial
  show zh_ok (zf_Matcher_notIn_l0_b x1 f0 f2 g0 (zf_Matcher_notIn_l0 x1 f0 f2 g0 n) a i) _
  unfold zf_Matcher_notIn_l0_b
  refine zh_ite (fun hi => ?_) fun _ => zh_ret trivial
  rw [zi_w_id (x := i + 1) (by omega) (by omega)]
  exact zh_ite (fun _ => k _ hi trivial) fun _ => zh_bind (yw_standing i0 (by omega)) fun r _ => zh_ite (fun _ => k _ hi trivial) fun _ => k _ hi trivial
theorem yw_colsOf {f0 f1 : Int} {g0 g1 : Int → Int} (h : yw_so g0) : zh_ok (zf_Matcher_columnsOfWay f0 f1 g0 g1) fun _ => True := by
  refine zh_bind (Q := fun _ => True) (zh_loop (F := fun n i (a : Int) => zf_Matcher_columnsOfWay_l0 f0 f1 g0 g1 n a i) (N := 8) (I := fun _ _ => True) (fun n i a i0 i1 _ k => ?_) 8 0 0 zi_fu (by decide) (by decide) (by decide) (by decide) trivial) fun o _ => zh_ret trivial
  show zh_ok (zf_Matcher_columnsOfWay_l0_b f0 f1 g0 g1 (zf_Matcher_columnsOfWay_l0 f0 f1 g0 g1 n) a i) _
  unfold zf_Matcher_columnsOfWay_l0_b
  refine zh_ite (fun hi => ?_) fun _ => zh_ret trivial
  rw [zi_w_id (x := i + 1) (by omega) (by omega)]
  exact zh_ite (fun _ => k _ hi trivial) fun _ => zh_cond (zi_ix_of i0 (by omega)) (zh_bind (yw_standing (h i i0 hi).1 (h i i0 hi).2) fun r _ => k _ hi trivial)
theorem yw_hide_g {f2 f3 f7 : Int} {g0 g1 g3 : Int → Int} : ∀ (n w : Nat) (x3 x4 f0 f6 : Int) (g2 g4 g5 : Int → Int), x4 ≤ 4 → x4 + 1 < n → 0 < n → yw_so g5 → zh_ok (zg_Matcher_hide n w x3 x4 f0 f2 f3 f6 f7 g0 g1 g2 g3 g4 g5) fun o => yw_so o.2.2.2.2 := by
  intro n
  induction n with
  | zero => intro w x3 x4 f0 f6 g2 g4 g5 h0 h1 h2; omega
  | succ n ih =>
    intro w x3 x4 f0 f6 g2 g4 g5 h0 h1 h2 h
    show zh_ok (zm_Matcher_hide (zg_Matcher_hide n) x3 x4 f0 f2 f3 f6 f7 g0 g1 g2 g3 g4 g5) _
    have lp : ∀ (q : Int) (f6 : Int) (g2 g4 g5 : Int → Int), 0 < x4 → yw_so g5 → zh_ok (zm_Matcher_hide_l0 (zg_Matcher_hide n) x3 x4 q f2 f3 f7 g0 g1 g3 zi_fu 0 f0 f6 g2 g4 g5) fun o => yw_so o.2.2.2.2 := by
      intro q f6 g2 g4 g5 hx h
      refine zh_loop (F := fun n2 i (a : Int × Int × (Int → Int) × (Int → Int) × (Int → Int)) => zm_Matcher_hide_l0 (zg_Matcher_hide n) x3 x4 q f2 f3 f7 g0 g1 g3 n2 i a.1 a.2.1 a.2.2.1 a.2.2.2.1 a.2.2.2.2) (N := 24) (I := fun _ a => yw_so a.2.2.2.2) (fun n2 i a i0 i1 ha k => ?_) 24 0 (f0, f6, g2, g4, g5) zi_fu (by decide) (by decide) (by decide) (by decide) h
      show zh_ok (zm_Matcher_hide_l0_b (zg_Matcher_hide n) x3 x4 q f2 f3 f7 g0 g1 g3 (zm_Matcher_hide_l0 (zg_Matcher_hide n) x3 x4 q f2 f3 f7 g0 g1 g3 n2) i a.1 a.2.1 a.2.2.1 a.2.2.2.1 a.2.2.2.2) _
      unfold zm_Matcher_hide_l0_b
      refine zh_ite (fun hi => ?_) fun _ => zh_ret ha
      rw [zi_w_id (x := i + 1) (by omega) (by omega), zi_w_id (x := x4 - 1) (by omega) (by omega)]
      exact zh_ite (fun _ => k a hi ha) fun _ => zh_bind (ih 0 _ (x4 - 1) _ _ _ _ _ (by omega) (by omega) (by omega) ha) fun r9 h9 => k (_, _, _, _, _) hi h9
    have all : zh_ok ((zf_Matcher_notIn x3 f2 f3 g0).bind fun r2 => ((zf_Matcher_countWays_24 r2 1 f6 f7 g1 g2 g3 g4 g5).bind fun r3 => (if r3.1 = 0 then (some (x3, r3.2.1, r3.2.2.1, r3.2.2.2.1, r3.2.2.2.2)) else (if 0 < x4 then ((zf_Matcher_columnsOfWay f7 f3 r3.2.2.2.2 g0).bind fun r6 => ((zm_Matcher_hide_l0 (zg_Matcher_hide n) x3 x4 r6 f2 f3 f7 g0 g1 g3 zi_fu 0 f0 r3.2.1 r3.2.2.1 r3.2.2.2.1 r3.2.2.2.2).bind fun q10 => (some (q10.1, q10.2.1, q10.2.2.1, q10.2.2.2.1, q10.2.2.2.2)))) else (some (f0, r3.2.1, r3.2.2.1, r3.2.2.2.1, r3.2.2.2.2)))))) fun o => yw_so o.2.2.2.2 :=
      zh_bind yw_notIn fun r2 _ => zh_bind (yw_count h) fun r3 h3 => zh_ite (fun _ => zh_ret h3) fun _ => zh_ite (fun hx => zh_bind (yw_colsOf h3) fun r6 _ => zh_bind (lp _ _ _ _ _ hx h3) fun q hq => zh_ret hq) fun _ => zh_ret h3
    unfold zm_Matcher_hide
    exact zh_ite (fun _ => all) fun _ => zh_ite (fun _ => all) fun _ => zh_ret h
theorem yw_fewest {f0 f2 f3 f6 f7 : Int} {g0 g1 g2 g3 g4 g5 : Int → Int} (h : yw_so g5) : zh_ok (zf_Matcher_fewestColumns f0 f2 f3 f6 f7 g0 g1 g2 g3 g4 g5) fun o => yw_so o.2.2.2.2.2 := by
  unfold zf_Matcher_fewestColumns
  refine zh_bind (Q := fun q => yw_so q.2.2.2.2) (zh_loop (F := fun n2 i (a : Int × Int × (Int → Int) × (Int → Int) × (Int → Int)) => zf_Matcher_fewestColumns_l0 f2 f3 f7 g0 g1 g3 n2 i a.1 a.2.1 a.2.2.1 a.2.2.2.1 a.2.2.2.2) (N := 5) (I := fun _ a => yw_so a.2.2.2.2) (fun n2 i a i0 i1 ha k => ?_) 5 1 (-1, f6, g2, g4, g5) zi_fu (by decide) (by decide) (by decide) (by decide) h) fun q hq => zh_ret hq
  show zh_ok (zf_Matcher_fewestColumns_l0_b f2 f3 f7 g0 g1 g3 (zf_Matcher_fewestColumns_l0 f2 f3 f7 g0 g1 g3 n2) i a.1 a.2.1 a.2.2.1 a.2.2.2.1 a.2.2.2.2) _
  unfold zf_Matcher_fewestColumns_l0_b
  refine zh_ite (fun _ => zh_ret ha) fun hi => zh_ite (fun _ => ?_) fun _ => zh_ret ha
  rw [zi_w_id (x := i + 1) (by omega) (by omega)]
  exact zh_bind (yw_hide_g 6 0 0 i _ _ _ _ _ (by omega) (by omega) (by decide) ha) fun r3 h3 => k (_, _, _, _, _) (by omega) h3
end
section
/-! The ways in which a tale is matched, on the reference's side: all of them, one after the other. -/
def yw_P (n : Int) (S fr nm to J : Int → Int) (q s : Int) : Prop := ∀ p, 0 ≤ p → p < q → S p ≠ s ∧ (yt_ln n fr to (nm p) (nm q) → zb (J s) (S p).toNat = true)
noncomputable def yw_ok (z n : Int) (fr nm to J : Int → Int) (S : Int → Int) (q s : Int) : Bool := zb z s.toNat && @decide (yw_P n S fr nm to J q s) (Classical.propDecidable _)
def yw_cat {α : Type} (f : Int → List α) : Nat → List α
  | 0 => []
  | k + 1 => f (23 - k) ++ yw_cat f k
def yw_L (ok : (Int → Int) → Int → Int → Bool) : Nat → Int → (Int → Int) → List (Int → Int)
  | 0, _, S => [S]
  | r + 1, q, S => yw_cat (fun s => cond (ok S q s) (yw_L ok r (q + 1) (zv_up S q s)) []) 24
def yw_T : Nat → Nat → Nat
  | 0, _ => 0
  | r + 1, k => 1 + k * (1 + yw_T r 24)
theorem yw_T_st {r k k2 : Nat} (h : k2 + 1 ≤ k) : yw_T (r + 1) k2 + (1 + yw_T r 24) ≤ yw_T (r + 1) k := by
  show 1 + k2 * (1 + yw_T r 24) + (1 + yw_T r 24) ≤ 1 + k * (1 + yw_T r 24)
  have := Nat.mul_le_mul_right (1 + yw_T r 24) h
  rw [Nat.succ_mul] at this
  omega
theorem yw_cat_0 {α : Type} {f : Int → List α} : ∀ k : Nat, k ≤ 24 → (∀ t : Int, 24 - (k : Int) ≤ t → t < 24 → f t = []) → yw_cat f k = []
  | 0, _, _ => rfl
  | k + 1, hk, h => by
    show f (23 - k) ++ yw_cat f k = []
    rw [h (23 - k) (by omega) (by omega), yw_cat_0 k (by omega) fun t t1 t2 => h t (by omega) t2]; rfl
theorem yw_cat_s {α : Type} {f : Int → List α} {s : Int} (s1 : s < 24) : ∀ k : Nat, k ≤ 24 → 24 - (k : Int) ≤ s → (∀ t : Int, 24 - (k : Int) ≤ t → t < s → f t = []) → yw_cat f k = f s ++ yw_cat f (23 - s).toNat
  | 0, _, hs, _ => by omega
  | k + 1, hk, hs, h => by
    show f (23 - k) ++ yw_cat f k = _
    by_cases e : s = 23 - k
    · rw [e, show (23 - (23 - (k : Int))).toNat = k by omega]
    · rw [h (23 - k) (by omega) (by omega), yw_cat_s s1 k (by omega) (by omega) fun t t1 t2 => h t (by omega) t2]; rfl
theorem ze_has2 {t i : Int} (k1 : 0 ≤ i) (k2 : i < 32) : zf_M_has t i = some (if zb t i.toNat = true then 1 else 0) := by
  unfold zf_M_has
  by_cases c : zb t i.toNat = true
  · rw [zb_bit1 k1 k2 c, if_pos rfl, if_pos c]
  · rw [zb_bit0 k1 k2 c, if_neg (by decide), if_neg c]
section YWC
variable {n : Int} {S fr nm to J : Int → Int} {q s : Int}
theorem yw_cb_l (n0 : n ≤ 12) (q1 : q ≤ 7) (s0 : 0 ≤ s) (s1 : s ≤ 23) {p : Int} (p0 : 0 ≤ p) (p1 : p < q) (S0 : 0 ≤ S p) (S1 : S p ≤ 23) : ∀ (d : Nat) (j : Int) (f : Nat), n - j ≤ d → 0 ≤ j → d < f →
    (zf_M_canBe_l1 q s p n S fr nm to J f j = some (.inl ()) ∧ ∀ i, j ≤ i → i < n → ((fr i = nm p ∧ to i = nm q) ∨ (fr i = nm q ∧ to i = nm p)) → zb (J s) (S p).toNat = true) ∨
    (zf_M_canBe_l1 q s p n S fr nm to J f j = some (.inr 0) ∧ (∃ i, j ≤ i ∧ i < n ∧ ((fr i = nm p ∧ to i = nm q) ∨ (fr i = nm q ∧ to i = nm p))) ∧ ¬ zb (J s) (S p).toNat = true) := by
  intro d
  induction d with
  | zero =>
    intro j f e j0 hf
    obtain ⟨f, rfl⟩ : ∃ q, f = q + 1 := ⟨f - 1, by omega⟩
    refine .inl ⟨?_, fun i i0 i1 => by omega⟩
    show zf_M_canBe_l1_b q s p n S fr nm to J (zf_M_canBe_l1 q s p n S fr nm to J f) j = _
    unfold zf_M_canBe_l1_b
    rw [if_neg (by omega)]
  | succ d ih =>
    intro j f e j0 hf
    obtain ⟨f, rfl⟩ : ∃ q, f = q + 1 := ⟨f - 1, by omega⟩
    show (zf_M_canBe_l1_b q s p n S fr nm to J (zf_M_canBe_l1 q s p n S fr nm to J f) j = _ ∧ _) ∨ (zf_M_canBe_l1_b q s p n S fr nm to J (zf_M_canBe_l1 q s p n S fr nm to J f) j = _ ∧ _)
    unfold zf_M_canBe_l1_b
    by_cases c : j < n
    · rw [if_pos c, zl_ci j0 (by omega), zl_ci p0 (by omega), zl_ci (show 0 ≤ q by omega) (by omega), zl_ci (show 0 ≤ q by omega) (by omega), zl_ci s0 (by omega), ze_has2 S0 (by omega), zl_b, zi_w_id (x := j + 1) (by omega) (by omega)]
      have nx := ih (j + 1) f (by omega) (by omega) (by omega)
      have skip : ¬ ((fr j = nm p ∧ to j = nm q) ∨ (fr j = nm q ∧ to j = nm p)) → (zf_M_canBe_l1 q s p n S fr nm to J f (j + 1) = some (.inl ()) ∧ ∀ i, j ≤ i → i < n → ((fr i = nm p ∧ to i = nm q) ∨ (fr i = nm q ∧ to i = nm p)) → zb (J s) (S p).toNat = true) ∨
          (zf_M_canBe_l1 q s p n S fr nm to J f (j + 1) = some (.inr 0) ∧ (∃ i, j ≤ i ∧ i < n ∧ ((fr i = nm p ∧ to i = nm q) ∨ (fr i = nm q ∧ to i = nm p))) ∧ ¬ zb (J s) (S p).toNat = true) := fun hne => by
        rcases nx with ⟨e1, a⟩ | ⟨e1, ⟨i, i0, i1, a⟩, b⟩
        · refine .inl ⟨e1, fun i i0 i1 hi => ?_⟩
          by_cases w : i = j
          · subst w; exact absurd hi hne
          · exact a i (by omega) i1 hi
        · exact .inr ⟨e1, ⟨i, by omega, i1, a⟩, b⟩
      have take : ((fr j = nm p ∧ to j = nm q) ∨ (fr j = nm q ∧ to j = nm p)) → ((if (if zb (J s) (S p).toNat = true then (1 : Int) else 0) = 0 then (some (.inr 0) : Option (Unit ⊕ Int)) else zf_M_canBe_l1 q s p n S fr nm to J f (j + 1)) = some (.inl ()) ∧ ∀ i, j ≤ i → i < n → ((fr i = nm p ∧ to i = nm q) ∨ (fr i = nm q ∧ to i = nm p)) → zb (J s) (S p).toNat = true) ∨
          ((if (if zb (J s) (S p).toNat = true then (1 : Int) else 0) = 0 then (some (.inr 0) : Option (Unit ⊕ Int)) else zf_M_canBe_l1 q s p n S fr nm to J f (j + 1)) = some (.inr 0) ∧ (∃ i, j ≤ i ∧ i < n ∧ ((fr i = nm p ∧ to i = nm q) ∨ (fr i = nm q ∧ to i = nm p))) ∧ ¬ zb (J s) (S p).toNat = true) := fun he => by
        by_cases b : zb (J s) (S p).toNat = true
        · rw [if_pos b, if_neg (show ¬ (1 : Int) = 0 by decide)]
          rcases nx with ⟨e1, a⟩ | ⟨e1, _, a⟩
          · exact .inl ⟨e1, fun _ _ _ _ => b⟩
          · exact absurd b a
        · rw [if_neg b, if_pos rfl]
          exact .inr ⟨rfl, ⟨j, Int.le_refl _, c, he⟩, b⟩
      by_cases a1 : fr j = nm p
      · rw [if_pos a1]
        by_cases a2 : to j = nm q
        · rw [if_pos a2]; exact take (.inl ⟨a1, a2⟩)
        · rw [if_neg a2]
          by_cases a3 : fr j = nm q
          · rw [if_pos a3]
            by_cases a4 : to j = nm p
            · rw [if_pos a4]; exact take (.inr ⟨a3, a4⟩)
            · rw [if_neg a4]; exact skip fun w => w.elim (fun w => a2 w.2) fun w => a4 w.2
          · rw [if_neg a3]; exact skip fun w => w.elim (fun w => a2 w.2) fun w => a3 w.1
      · rw [if_neg a1]
        by_cases a3 : fr j = nm q
        · rw [if_pos a3]
          by_cases a4 : to j = nm p
          · rw [if_pos a4]; exact take (.inr ⟨a3, a4⟩)
          · rw [if_neg a4]; exact skip fun w => w.elim (fun w => a1 w.1) fun w => a4 w.2
        · rw [if_neg a3]; exact skip fun w => w.elim (fun w => a1 w.1) fun w => a3 w.1
    · rw [if_neg c]
      exact .inl ⟨rfl, fun i i0 i1 => by omega⟩
theorem yw_cb_o (n0 : n ≤ 12) (q0 : 0 ≤ q) (q1 : q ≤ 7) (s0 : 0 ≤ s) (s1 : s ≤ 23) (hS : ∀ p, 0 ≤ p → p < q → 0 ≤ S p ∧ S p ≤ 23) : ∀ (d : Nat) (j : Int) (f : Nat), q - j ≤ d → 0 ≤ j → d < f →
    (zf_M_canBe_l0 q s n S fr nm to J f j = some (.inl ()) ∧ ∀ p, j ≤ p → p < q → S p ≠ s ∧ (yt_ln n fr to (nm p) (nm q) → zb (J s) (S p).toNat = true)) ∨
    (zf_M_canBe_l0 q s n S fr nm to J f j = some (.inr 0) ∧ ∃ p, j ≤ p ∧ p < q ∧ ¬ (S p ≠ s ∧ (yt_ln n fr to (nm p) (nm q) → zb (J s) (S p).toNat = true))) := by
  intro d
  induction d with
  | zero =>
    intro j f e j0 hf
    obtain ⟨f, rfl⟩ : ∃ q, f = q + 1 := ⟨f - 1, by omega⟩
    refine .inl ⟨?_, fun i i0 i1 => by omega⟩
    show zf_M_canBe_l0_b q s n S fr nm to J (zf_M_canBe_l0 q s n S fr nm to J f) j = _
    unfold zf_M_canBe_l0_b
    rw [if_neg (by omega)]
  | succ d ih =>
    intro j f e j0 hf
    obtain ⟨f, rfl⟩ : ∃ q, f = q + 1 := ⟨f - 1, by omega⟩
    show (zf_M_canBe_l0_b q s n S fr nm to J (zf_M_canBe_l0 q s n S fr nm to J f) j = _ ∧ _) ∨ (zf_M_canBe_l0_b q s n S fr nm to J (zf_M_canBe_l0 q s n S fr nm to J f) j = _ ∧ _)
    unfold zf_M_canBe_l0_b
    by_cases c : j < q
    · rw [if_pos c, zl_ci j0 (by omega), zi_w_id (x := j + 1) (by omega) (by omega)]
      by_cases a : S j = s
      · rw [if_pos a]
        exact .inr ⟨rfl, j, Int.le_refl _, c, fun w => w.1 a⟩
      · rw [if_neg a]
        rcases yw_cb_l (n := n) (S := S) (fr := fr) (nm := nm) (to := to) (J := J) n0 q1 s0 s1 j0 c (hS j j0 c).1 (hS j j0 c).2 12 0 zi_fu (by omega) (by decide) (by decide) with ⟨e1, b⟩ | ⟨e1, ⟨i, i0, i1, b⟩, b2⟩
        · rw [e1, zl_b]
          dsimp only [Sum.elim]
          have hj : S j ≠ s ∧ (yt_ln n fr to (nm j) (nm q) → zb (J s) (S j).toNat = true) := ⟨a, fun ⟨i, i0, i1, hi⟩ => b i i0 i1 hi⟩
          rcases ih (j + 1) f (by omega) (by omega) (by omega) with ⟨e2, h⟩ | ⟨e2, p, p0, p1, h⟩
          · refine .inl ⟨e2, fun p p0 p1 => ?_⟩
            by_cases w : p = j
            · subst w; exact hj
            · exact h p (by omega) p1
          · exact .inr ⟨e2, p, by omega, p1, h⟩
        · rw [e1, zl_b]
          dsimp only [Sum.elim]
          exact .inr ⟨rfl, j, Int.le_refl _, c, fun w => b2 (w.2 ⟨i, i0, i1, b⟩)⟩
    · rw [if_neg c]
      exact .inl ⟨rfl, fun i i0 i1 => by omega⟩
theorem yw_canBe (n0 : n ≤ 12) (q0 : 0 ≤ q) (q1 : q ≤ 7) (s0 : 0 ≤ s) (s1 : s ≤ 23) (hS : ∀ p, 0 ≤ p → p < q → 0 ≤ S p ∧ S p ≤ 23) :
    (zf_M_canBe q s n S fr nm to J = some 1 ∧ yw_P n S fr nm to J q s) ∨ (zf_M_canBe q s n S fr nm to J = some 0 ∧ ¬ yw_P n S fr nm to J q s) := by
  unfold zf_M_canBe
  rcases yw_cb_o (n := n) (S := S) (fr := fr) (nm := nm) (to := to) (J := J) n0 q0 q1 s0 s1 hS 8 0 zi_fu (by omega) (by decide) (by decide) with ⟨e1, b⟩ | ⟨e1, p, p0, p1, b⟩
  · rw [e1, zl_b]
    exact .inl ⟨rfl, b⟩
  · rw [e1, zl_b]
    exact .inr ⟨rfl, fun w => b (w p p0 p1)⟩
theorem yw_P_cg {S2 : Int → Int} (h : ∀ p, 0 ≤ p → p < q → S p = S2 p) : yw_P n S fr nm to J q s ↔ yw_P n S2 fr nm to J q s := by
  unfold yw_P
  constructor
  · intro w p p0 p1; rw [← h p p0 p1]; exact w p p0 p1
  · intro w p p0 p1; rw [h p p0 p1]; exact w p p0 p1
/-- the next star that fits -/
theorem yw_next {z : Int} {S0 : Int → Int} (n0 : n ≤ 12) (q0 : 0 ≤ q) (q1 : q ≤ 7) (hS : ∀ p, 0 ≤ p → p < q → S p = S0 p ∧ 0 ≤ S0 p ∧ S0 p ≤ 23) : ∀ (d : Nat) (j : Int) (f : Nat), 24 - j ≤ d → 0 ≤ j → j ≤ 24 → d < f →
    ∃ r, zf_M_ways_l1 q z n nm S fr to J f j = some r ∧ j ≤ r ∧ r ≤ 24 ∧ (r < 24 → yw_ok z n fr nm to J S0 q r = true) ∧ ∀ t, j ≤ t → t < r → yw_ok z n fr nm to J S0 q t = false := by
  intro d
  induction d with
  | zero =>
    intro j f e j0 j1 hf
    obtain ⟨f, rfl⟩ : ∃ q, f = q + 1 := ⟨f - 1, by omega⟩
    refine ⟨j, ?_, Int.le_refl _, j1, fun h => by omega, fun t t0 t1 => by omega⟩
    show zf_M_ways_l1_b q z n nm S fr to J (zf_M_ways_l1 q z n nm S fr to J f) j = _
    unfold zf_M_ways_l1_b
    rw [if_neg (by omega)]
  | succ d ih =>
    intro j f e j0 j1 hf
    obtain ⟨f, rfl⟩ : ∃ q, f = q + 1 := ⟨f - 1, by omega⟩
    by_cases c : j < 24
    · have nx : yw_ok z n fr nm to J S0 q j = false → ∃ r, zf_M_ways_l1 q z n nm S fr to J f (j + 1) = some r ∧ j ≤ r ∧ r ≤ 24 ∧ (r < 24 → yw_ok z n fr nm to J S0 q r = true) ∧ ∀ t, j ≤ t → t < r → yw_ok z n fr nm to J S0 q t = false := fun hn => by
        obtain ⟨r, e1, r0, r1, r2, r3⟩ := ih (j + 1) f (by omega) (by omega) (by omega) (by omega)
        refine ⟨r, e1, by omega, r1, r2, fun t t0 t1 => ?_⟩
        by_cases w : t = j
        · subst w; exact hn
        · exact r3 t (by omega) t1
      show ∃ r, zf_M_ways_l1_b q z n nm S fr to J (zf_M_ways_l1 q z n nm S fr to J f) j = some r ∧ _
      unfold zf_M_ways_l1_b
      rw [if_pos c, ze_has2 j0 (by omega), zl_b, zi_w_id (x := j + 1) (by omega) (by omega)]
      by_cases hz : zb z j.toNat = true
      · rw [if_pos hz, if_neg (show ¬ (1 : Int) = 0 by decide)]
        rcases yw_canBe (n := n) (S := S) (fr := fr) (nm := nm) (to := to) (J := J) (q := q) (s := j) n0 q0 q1 j0 (by omega) (fun p p0 p1 => by have := hS p p0 p1; omega) with ⟨e1, b⟩ | ⟨e1, b⟩
        · rw [e1, zl_b, if_neg (show ¬ (1 : Int) = 0 by decide)]
          refine ⟨j, rfl, Int.le_refl _, by omega, fun _ => ?_, fun t t0 t1 => by omega⟩
          unfold yw_ok
          rw [hz, Bool.true_and]
          exact @decide_eq_true _ (Classical.propDecidable _) ((yw_P_cg fun p p0 p1 => (hS p p0 p1).1).mp b)
        · rw [e1, zl_b, if_pos (show (0 : Int) = 0 from rfl)]
          refine nx ?_
          unfold yw_ok
          rw [hz, Bool.true_and]
          exact @decide_eq_false _ (Classical.propDecidable _) fun w => b ((yw_P_cg fun p p0 p1 => (hS p p0 p1).1).mpr w)
      · rw [if_neg hz, if_pos (show (0 : Int) = 0 from rfl)]
        refine nx ?_
        unfold yw_ok
        rw [Bool.eq_false_iff.mpr hz, Bool.false_and]
    · refine ⟨j, ?_, Int.le_refl _, j1, fun h => by omega, fun t t0 t1 => by omega⟩
      show zf_M_ways_l1_b q z n nm S fr to J (zf_M_ways_l1 q z n nm S fr to J f) j = _
      unfold zf_M_ways_l1_b
      rw [if_neg (by omega)]
end YWC
end
section
/-! The reference's search over names: level by level. -/
/-- the first way is noted, once -/
def yw_Q (Nn : Int) (nm : Int → Int) (n : Int) (Ls : List (Int → Int)) (g g' : Int → Int) : Prop :=
  (n = 0 → ∀ X, Ls.head? = some X → ∀ j, 0 ≤ j → j < Nn → g' (nm j) = X j) ∧ ((n ≠ 0 ∨ Ls = []) → g' = g)
theorem yw_Q_0 {Nn n : Int} {nm g : Int → Int} : yw_Q Nn nm n [] g g := ⟨fun _ X h => (by cases h), fun _ => rfl⟩
theorem yw_Q_app {Nn n : Int} {nm g g1 g2 : Int → Int} {A B : List (Int → Int)} (n0 : 0 ≤ n) (h1 : yw_Q Nn nm n A g g1) (h2 : yw_Q Nn nm (n + A.length) B g1 g2) : yw_Q Nn nm n (A ++ B) g g2 := by
  cases A with
  | nil =>
    have e : g1 = g := h1.2 (.inr rfl)
    subst e
    have e2 : n + (([] : List (Int → Int)).length : Int) = n := by show n + ((0 : Nat) : Int) = n; omega
    rw [e2] at h2
    exact h2
  | cons x A =>
    have hl : ((x :: A).length : Int) = A.length + 1 := by rw [List.length_cons]; omega
    have e : g2 = g1 := h2.2 (.inl (by omega))
    subst e
    refine ⟨fun hn X hX => h1.1 hn X (by simpa using hX), fun h => ?_⟩
    rcases h with h | h
    · exact h1.2 (.inl h)
    · cases h
theorem yw_Q_cut {Nn n : Int} {nm g g1 : Int → Int} {A B : List (Int → Int)} (h1 : yw_Q Nn nm n A g g1) (hA : A ≠ []) : yw_Q Nn nm n (A ++ B) g g1 := by
  cases A with
  | nil => exact absurd rfl hA
  | cons x A =>
    refine ⟨fun hn X hX => h1.1 hn X (by simpa using hX), fun h => ?_⟩
    rcases h with h | h
    · exact h1.2 (.inl h)
    · cases h
/-- the names, one behind the other -/
def yw_nmz (ni Nn : Int) (nm : Int → Int) : Prop := (0 ≤ Nn ∧ Nn ≤ 8) ∧ (∀ i j, 0 ≤ i → i < j → j < Nn → nm i < nm j) ∧ (∀ j, 0 ≤ j → j < Nn → 0 ≤ nm j ∧ nm j ≤ 7 ∧ zb ni (nm j).toNat = true) ∧ ∀ b : Nat, b < 8 → zb ni b = true → ∃ j, 0 ≤ j ∧ j < Nn ∧ nm j = b
theorem yw_names_l {ni : Int} : ∀ (d : Nat) (i c : Int) (g : Int → Int) (f : Nat), i + d = 8 → 0 ≤ i → d < f → 0 ≤ c → c ≤ i →
    (∀ a b, 0 ≤ a → a < b → b < c → g a < g b) → (∀ j, 0 ≤ j → j < c → 0 ≤ g j ∧ g j < i ∧ zb ni (g j).toNat = true) → (∀ b : Nat, b < i → zb ni b = true → ∃ j, 0 ≤ j ∧ j < c ∧ g j = b) → ∃ c' g', zf_M_laysNames_l0 ni f i c g = some (c', g') ∧ yw_nmz ni c' g' := by
  intro d
  induction d with
  | zero =>
    intro i c g f e i0 hf c0 c1 h1 h2 h3
    obtain ⟨f, rfl⟩ : ∃ q, f = q + 1 := ⟨f - 1, by omega⟩
    refine ⟨c, g, ?_, ⟨c0, by omega⟩, h1, fun j j0 j1 => ?_, fun b hb => h3 b (by omega)⟩
    · show zf_M_laysNames_l0_b ni (zf_M_laysNames_l0 ni f) i c g = _
      unfold zf_M_laysNames_l0_b
      rw [if_neg (by omega)]
    · obtain ⟨a1, a2, a3⟩ := h2 j j0 j1
      exact ⟨a1, by omega, a3⟩
  | succ d ih =>
    intro i c g f e i0 hf c0 c1 h1 h2 h3
    obtain ⟨f, rfl⟩ : ∃ q, f = q + 1 := ⟨f - 1, by omega⟩
    show ∃ c' g', zf_M_laysNames_l0_b ni (zf_M_laysNames_l0 ni f) i c g = some (c', g') ∧ yw_nmz ni c' g'
    unfold zf_M_laysNames_l0_b
    rw [if_pos (by omega), ze_has2 i0 (by omega), zl_b, zi_w_id (x := i + 1) (by omega) (by omega)]
    by_cases hz : zb ni i.toNat = true
    · rw [if_pos hz, if_neg (show ¬ (1 : Int) = 0 by decide), zl_ci c0 (by omega), zi_w_id (x := c + 1) (by omega) (by omega)]
      refine ih (i + 1) (c + 1) (zv_up g c i) f (by omega) (by omega) (by omega) (by omega) (by omega) (fun a b a0 ab b1 => ?_) (fun j j0 j1 => ?_) (fun b hb hzb => ?_)
      · by_cases w : b = c
        · subst w
          rw [zv_up_s, zv_up_n (by omega)]
          exact (h2 a a0 (by omega)).2.1
        · rw [zv_up_n w, zv_up_n (by omega)]
          exact h1 a b a0 ab (by omega)
      · by_cases w : j = c
        · subst w
          rw [zv_up_s]
          exact ⟨i0, by omega, hz⟩
        · rw [zv_up_n w]
          obtain ⟨a1, a2, a3⟩ := h2 j j0 (by omega)
          exact ⟨a1, by omega, a3⟩
      · by_cases w : (b : Int) = i
        · exact ⟨c, c0, by omega, by rw [zv_up_s]; exact w.symm⟩
        · obtain ⟨j, j0, j1, hj⟩ := h3 b (by omega) hzb
          exact ⟨j, j0, by omega, by rw [zv_up_n (by omega)]; exact hj⟩
    · rw [if_neg hz, if_pos (show (0 : Int) = 0 from rfl)]
      refine ih (i + 1) c g f (by omega) (by omega) (by omega) c0 (by omega) h1 (fun j j0 j1 => ?_) (fun b hb hzb => ?_)
      · obtain ⟨a1, a2, a3⟩ := h2 j j0 j1
        exact ⟨a1, by omega, a3⟩
      · by_cases w : (b : Int) = i
        · rw [← w] at hz
          exact absurd hzb hz
        · exact h3 b (by omega) hzb
theorem yw_names {f0 ni : Int} {g : Int → Int} : ∃ c' g', zf_M_laysNames f0 ni g = some (c', g') ∧ yw_nmz ni c' g' := by
  obtain ⟨c', g', e, h⟩ := yw_names_l (ni := ni) 8 0 0 g zi_fu (by decide) (by decide) (by decide) (by decide) (by decide) (fun a b a0 ab b1 => by omega) (fun j j0 j1 => by omega) (fun b hb => by omega)
  refine ⟨c', g', ?_, h⟩
  unfold zf_M_laysNames
  rw [e, zl_b]
theorem yw_note {Nn ni : Int} {nm X : Int → Int} (hn : yw_nmz ni Nn nm) : ∀ (d : Nat) (j : Int) (g : Int → Int) (f : Nat), Nn - j ≤ d → 0 ≤ j → d < f → (∀ i, 0 ≤ i → i < j → i < Nn → g (nm i) = X i) → ∃ g', zf_M_ways_l2 Nn nm X f j g = some g' ∧ ∀ i, 0 ≤ i → i < Nn → g' (nm i) = X i := by
  intro d
  induction d with
  | zero =>
    intro j g f e j0 hf h
    obtain ⟨f, rfl⟩ : ∃ q, f = q + 1 := ⟨f - 1, by omega⟩
    refine ⟨g, ?_, fun i i0 i1 => h i i0 (by omega) i1⟩
    show zf_M_ways_l2_b Nn nm X (zf_M_ways_l2 Nn nm X f) j g = _
    unfold zf_M_ways_l2_b
    rw [if_neg (by omega)]
  | succ d ih =>
    intro j g f e j0 hf h
    obtain ⟨f, rfl⟩ : ∃ q, f = q + 1 := ⟨f - 1, by omega⟩
    show ∃ g', zf_M_ways_l2_b Nn nm X (zf_M_ways_l2 Nn nm X f) j g = some g' ∧ _
    unfold zf_M_ways_l2_b
    obtain ⟨⟨m0, m1⟩, hi, hr, -⟩ := id hn
    by_cases c : j < Nn
    · obtain ⟨r1, r2, -⟩ := hr j j0 c
      rw [if_pos c, zl_ci j0 (by omega), zl_ci r1 (by omega), zi_w_id (x := j + 1) (by omega) (by omega)]
      refine ih (j + 1) _ f (by omega) (by omega) (by omega) fun i i0 i1 i2 => ?_
      by_cases w : i = j
      · subst w; rw [zv_up_s]
      · rw [zv_up_n (by have := hi i j i0 (by omega) c; omega)]
        exact h i i0 (by omega) i2
    · rw [if_neg c]
      exact ⟨g, rfl, fun i i0 i1 => h i i0 (by omega) i1⟩
section YWL
variable {n ni z Nn most : Int} {fr nm to J nr : Int → Int}
theorem yw_lev (n0 : n ≤ 12) (hn : yw_nmz ni Nn nm) (hm : most ≤ 10000) : ∀ (r : Nat) (k : Nat) (q c : Int) (S0 S g : Int → Int) (f : Nat), k ≤ 24 → q + (r + 1) = Nn → 0 ≤ q → (∀ p, 0 ≤ p → p < q → S p = S0 p ∧ 0 ≤ S0 p ∧ S0 p ≤ 23) → S q = 23 - (k : Int) → 0 ≤ c → c < most → yw_T (r + 1) k + 1 < f →
    ∃ S' g', yw_Q Nn nm c (yw_cat (fun s => cond (yw_ok z n fr nm to J S0 q s) (yw_L (yw_ok z n fr nm to J) r (q + 1) (zv_up S0 q s)) []) k) g g' ∧
      ((c + (yw_cat (fun s => cond (yw_ok z n fr nm to J S0 q s) (yw_L (yw_ok z n fr nm to J) r (q + 1) (zv_up S0 q s)) []) k).length < most ∧ (∀ p, 0 ≤ p → p < q → S' p = S p) ∧ ∃ f', f ≤ f' + yw_T (r + 1) k ∧ zf_M_ways_l0 most Nn z n nm fr to J f c q S g = zf_M_ways_l0 most Nn z n nm fr to J f' (c + (yw_cat (fun s => cond (yw_ok z n fr nm to J S0 q s) (yw_L (yw_ok z n fr nm to J) r (q + 1) (zv_up S0 q s)) []) k).length) (q - 1) S' g') ∨
       (most ≤ c + (yw_cat (fun s => cond (yw_ok z n fr nm to J S0 q s) (yw_L (yw_ok z n fr nm to J) r (q + 1) (zv_up S0 q s)) []) k).length ∧ zf_M_ways_l0 most Nn z n nm fr to J f c q S g = some (most, S', g'))) := by
  obtain ⟨⟨m0, m1⟩, -, -, -⟩ := id hn
  intro r
  induction r with
  | zero =>
    intro k
    induction k using Nat.strongRecOn with
    | ind k ihk =>
      intro q c S0 S g f hk hq q0 hS hSq c0 c1 hf
      obtain ⟨f, rfl⟩ : ∃ q, f = q + 1 := ⟨f - 1, by omega⟩
      obtain ⟨s, e1, s0, s1, s2, s3⟩ := yw_next (n := n) (S := S) (fr := fr) (nm := nm) (to := to) (J := J) (q := q) (z := z) (S0 := S0) n0 q0 (by omega) hS 24 (24 - (k : Int)) zi_fu (by omega) (by omega) (by omega) (by decide)
      have body : zf_M_ways_l0 most Nn z n nm fr to J (f + 1) c q S g = zf_M_ways_l0_b most Nn z n nm fr to J (zf_M_ways_l0 most Nn z n nm fr to J f) c q S g := rfl
      rw [body]
      unfold zf_M_ways_l0_b
      rw [if_neg (show ¬ q < 0 by omega), if_pos c1, zl_ci q0 (by omega), hSq, zi_w_id (x := 23 - (k : Int) + 1) (by omega) (by omega), show 23 - (k : Int) + 1 = 24 - (k : Int) by omega, e1, zl_b]
      have hT : 1 ≤ yw_T (0 + 1) k := by show 1 ≤ 1 + k * (1 + yw_T 0 24); omega
      by_cases w : s = 24
      · have hnil := yw_cat_0 (f := fun s => cond (yw_ok z n fr nm to J S0 q s) (yw_L (yw_ok z n fr nm to J) 0 (q + 1) (zv_up S0 q s)) []) k hk fun t t0 t1 => by show cond (yw_ok z n fr nm to J S0 q t) _ _ = _; rw [s3 t t0 (by omega)]; rfl
        rw [if_pos w, hnil, zi_w_id (x := q - 1) (by omega) (by omega)]
        refine ⟨S, g, yw_Q_0, .inl ⟨by show c + ((0 : Nat) : Int) < most; omega, fun _ _ _ => rfl, f, by omega, ?_⟩⟩
        rw [show c + (([] : List (Int → Int)).length : Int) = c from Int.add_zero c]
      · rw [if_neg w, zi_w_id (x := q + 1) (by omega) (by omega), if_neg (show ¬ q + 1 < Nn by omega), zi_w_id (x := c + 1) (by omega) (by omega)]
        have hcat := yw_cat_s (f := fun s => cond (yw_ok z n fr nm to J S0 q s) (yw_L (yw_ok z n fr nm to J) 0 (q + 1) (zv_up S0 q s)) []) (s := s) (by omega) k hk s0 fun t t0 t1 => by show cond (yw_ok z n fr nm to J S0 q t) _ _ = _; rw [s3 t t0 t1]; rfl
        have hfs : cond (yw_ok z n fr nm to J S0 q s) (yw_L (yw_ok z n fr nm to J) 0 (q + 1) (zv_up S0 q s)) [] = [zv_up S0 q s] := by rw [s2 (by omega)]; rfl
        rw [hfs] at hcat
        rw [hcat]
        have agree : ∀ j, 0 ≤ j → j < Nn → zv_up S q s j = zv_up S0 q s j := fun j j0 j1 => by
          by_cases w : j = q
          · subst w; rw [zv_up_s, zv_up_s]
          · rw [zv_up_n w, zv_up_n w]; exact (hS j j0 (by omega)).1
        have hT2 := yw_T_st (r := 0) (k := k) (k2 := (23 - s).toNat) (by omega)
        have go : ∀ g1, yw_Q Nn nm c [zv_up S0 q s] g g1 → ∃ S' g', yw_Q Nn nm c ([zv_up S0 q s] ++ yw_cat (fun s => cond (yw_ok z n fr nm to J S0 q s) (yw_L (yw_ok z n fr nm to J) 0 (q + 1) (zv_up S0 q s)) []) (23 - s).toNat) g g' ∧
            ((c + (([zv_up S0 q s] ++ yw_cat (fun s => cond (yw_ok z n fr nm to J S0 q s) (yw_L (yw_ok z n fr nm to J) 0 (q + 1) (zv_up S0 q s)) []) (23 - s).toNat).length : Nat) < most ∧ (∀ p, 0 ≤ p → p < q → S' p = S p) ∧ ∃ f', f + 1 ≤ f' + yw_T (0 + 1) k ∧ zf_M_ways_l0 most Nn z n nm fr to J f (c + 1) q (zv_up S q s) g1 = zf_M_ways_l0 most Nn z n nm fr to J f' (c + (([zv_up S0 q s] ++ yw_cat (fun s => cond (yw_ok z n fr nm to J S0 q s) (yw_L (yw_ok z n fr nm to J) 0 (q + 1) (zv_up S0 q s)) []) (23 - s).toNat).length : Nat)) (q - 1) S' g') ∨
             (most ≤ c + (([zv_up S0 q s] ++ yw_cat (fun s => cond (yw_ok z n fr nm to J S0 q s) (yw_L (yw_ok z n fr nm to J) 0 (q + 1) (zv_up S0 q s)) []) (23 - s).toNat).length : Nat) ∧ zf_M_ways_l0 most Nn z n nm fr to J f (c + 1) q (zv_up S q s) g1 = some (most, S', g'))) := by
          intro g1 hQ
          by_cases v : c + 1 < most
          · obtain ⟨S', g', hQ2, h⟩ := ihk (23 - s).toNat (by omega) q (c + 1) S0 (zv_up S q s) g1 f (by omega) hq q0 (fun p p0 p1 => by rw [zv_up_n (by omega)]; exact hS p p0 p1) (by rw [zv_up_s]; omega) (by omega) v (by omega)
            have hl : c + (([zv_up S0 q s] ++ yw_cat (fun s => cond (yw_ok z n fr nm to J S0 q s) (yw_L (yw_ok z n fr nm to J) 0 (q + 1) (zv_up S0 q s)) []) (23 - s).toNat).length : Nat) = c + 1 + (yw_cat (fun s => cond (yw_ok z n fr nm to J S0 q s) (yw_L (yw_ok z n fr nm to J) 0 (q + 1) (zv_up S0 q s)) []) (23 - s).toNat).length := by
              rw [List.length_append, List.length_singleton]; omega
            rw [hl]
            refine ⟨S', g', yw_Q_app c0 hQ hQ2, ?_⟩
            rcases h with ⟨h1, h2, f', h3, h4⟩ | ⟨h1, h2⟩
            · exact .inl ⟨h1, fun p p0 p1 => by rw [h2 p p0 p1, zv_up_n (by omega)], f', by omega, h4⟩
            · exact .inr ⟨h1, h2⟩
          · have hl : most ≤ c + (([zv_up S0 q s] ++ yw_cat (fun s => cond (yw_ok z n fr nm to J S0 q s) (yw_L (yw_ok z n fr nm to J) 0 (q + 1) (zv_up S0 q s)) []) (23 - s).toNat).length : Nat) := by
              rw [List.length_append, List.length_singleton]; omega
            refine ⟨zv_up S q s, g1, yw_Q_cut hQ (by simp), .inr ⟨hl, ?_⟩⟩
            obtain ⟨f, rfl⟩ : ∃ q, f = q + 1 := ⟨f - 1, by omega⟩
            show zf_M_ways_l0_b most Nn z n nm fr to J (zf_M_ways_l0 most Nn z n nm fr to J f) (c + 1) q (zv_up S q s) g1 = _
            unfold zf_M_ways_l0_b
            rw [if_neg (show ¬ q < 0 by omega), if_neg v, show c + 1 = most by omega]
        by_cases v : c = 0
        · rw [if_pos v]
          obtain ⟨g1, e2, h2⟩ := yw_note (X := zv_up S q s) hn 8 0 g zi_fu (by omega) (by decide) (by decide) fun i i0 i1 => by omega
          rw [e2, zl_b]
          refine go g1 ⟨fun _ X hX j j0 j1 => ?_, fun h => ?_⟩
          · have : X = zv_up S0 q s := by simpa using hX.symm
            rw [this, h2 j j0 j1, agree j j0 j1]
          · rcases h with h | h
            · exact absurd v h
            · cases h
        · rw [if_neg v]
          exact go g ⟨fun h => absurd h v, fun _ => rfl⟩
  | succ r ihr =>
    intro k
    induction k using Nat.strongRecOn with
    | ind k ihk =>
      intro q c S0 S g f hk hq q0 hS hSq c0 c1 hf
      obtain ⟨f, rfl⟩ : ∃ q, f = q + 1 := ⟨f - 1, by omega⟩
      obtain ⟨s, e1, s0, s1, s2, s3⟩ := yw_next (n := n) (S := S) (fr := fr) (nm := nm) (to := to) (J := J) (q := q) (z := z) (S0 := S0) n0 q0 (by omega) hS 24 (24 - (k : Int)) zi_fu (by omega) (by omega) (by omega) (by decide)
      have body : zf_M_ways_l0 most Nn z n nm fr to J (f + 1) c q S g = zf_M_ways_l0_b most Nn z n nm fr to J (zf_M_ways_l0 most Nn z n nm fr to J f) c q S g := rfl
      rw [body]
      unfold zf_M_ways_l0_b
      rw [if_neg (show ¬ q < 0 by omega), if_pos c1, zl_ci q0 (by omega), hSq, zi_w_id (x := 23 - (k : Int) + 1) (by omega) (by omega), show 23 - (k : Int) + 1 = 24 - (k : Int) by omega, e1, zl_b]
      have hT : 1 ≤ yw_T (r + 1 + 1) k := by show 1 ≤ 1 + k * (1 + yw_T (r + 1) 24); omega
      by_cases w : s = 24
      · have hnil := yw_cat_0 (f := fun s => cond (yw_ok z n fr nm to J S0 q s) (yw_L (yw_ok z n fr nm to J) (r + 1) (q + 1) (zv_up S0 q s)) []) k hk fun t t0 t1 => by show cond (yw_ok z n fr nm to J S0 q t) _ _ = _; rw [s3 t t0 (by omega)]; rfl
        rw [if_pos w, hnil, zi_w_id (x := q - 1) (by omega) (by omega)]
        refine ⟨S, g, yw_Q_0, .inl ⟨by show c + ((0 : Nat) : Int) < most; omega, fun _ _ _ => rfl, f, by omega, ?_⟩⟩
        rw [show c + (([] : List (Int → Int)).length : Int) = c from Int.add_zero c]
      · rw [if_neg w, zi_w_id (x := q + 1) (by omega) (by omega), if_pos (show q + 1 < Nn by omega), zl_ci (show 0 ≤ q + 1 by omega) (by omega)]
        have hcat := yw_cat_s (f := fun s => cond (yw_ok z n fr nm to J S0 q s) (yw_L (yw_ok z n fr nm to J) (r + 1) (q + 1) (zv_up S0 q s)) []) (s := s) (by omega) k hk s0 fun t t0 t1 => by show cond (yw_ok z n fr nm to J S0 q t) _ _ = _; rw [s3 t t0 t1]; rfl
        have hfs : cond (yw_ok z n fr nm to J S0 q s) (yw_L (yw_ok z n fr nm to J) (r + 1) (q + 1) (zv_up S0 q s)) [] = yw_cat (fun s2 => cond (yw_ok z n fr nm to J (zv_up S0 q s) (q + 1) s2) (yw_L (yw_ok z n fr nm to J) r (q + 1 + 1) (zv_up (zv_up S0 q s) (q + 1) s2)) []) 24 := by rw [s2 (by omega)]; rfl
        rw [hfs] at hcat
        rw [hcat]
        have hT2 := yw_T_st (r := r + 1) (k := k) (k2 := (23 - s).toNat) (by omega)
        obtain ⟨S1, g1, hQ, h⟩ := ihr 24 (q + 1) c (zv_up S0 q s) (zv_up (zv_up S q s) (q + 1) (-1)) g f (Nat.le_refl _) (by omega) (by omega) (fun p p0 p1 => by
          rw [zv_up_n (show p ≠ q + 1 by omega)]
          by_cases w : p = q
          · subst w; rw [zv_up_s, zv_up_s]; exact ⟨rfl, by omega, by omega⟩
          · rw [zv_up_n w, zv_up_n w]; exact hS p p0 (by omega)) (by rw [zv_up_s]; decide) c0 c1 (by omega)
        generalize yw_cat (fun s2 => cond (yw_ok z n fr nm to J (zv_up S0 q s) (q + 1) s2) (yw_L (yw_ok z n fr nm to J) r (q + 1 + 1) (zv_up (zv_up S0 q s) (q + 1) s2)) []) 24 = A at hQ h ⊢
        rcases h with ⟨h1, h2, f', h3, h4⟩ | ⟨h1, h2⟩
        · rw [h4, show q + 1 - 1 = q by omega]
          have hS1 : ∀ p, 0 ≤ p → p < q → S1 p = S p := fun p p0 p1 => by rw [h2 p p0 (by omega), zv_up_n (by omega), zv_up_n (by omega)]
          have hS1q : S1 q = s := by rw [h2 q q0 (by omega), zv_up_n (by omega), zv_up_s]
          obtain ⟨S', g', hQ2, h⟩ := ihk (23 - s).toNat (by omega) q (c + A.length) S0 S1 g1 f' (by omega) hq q0 (fun p p0 p1 => by rw [hS1 p p0 p1]; exact hS p p0 p1) (by rw [hS1q]; omega) (by omega) h1 (by omega)
          have hl : c + ((A ++ yw_cat (fun s => cond (yw_ok z n fr nm to J S0 q s) (yw_L (yw_ok z n fr nm to J) (r + 1) (q + 1) (zv_up S0 q s)) []) (23 - s).toNat).length : Nat) = c + A.length + (yw_cat (fun s => cond (yw_ok z n fr nm to J S0 q s) (yw_L (yw_ok z n fr nm to J) (r + 1) (q + 1) (zv_up S0 q s)) []) (23 - s).toNat).length := by
            rw [List.length_append]; omega
          rw [hl]
          refine ⟨S', g', yw_Q_app c0 hQ hQ2, ?_⟩
          rcases h with ⟨k1, k2, f2, k3, k4⟩ | ⟨k1, k2⟩
          · exact .inl ⟨k1, fun p p0 p1 => by rw [k2 p p0 p1, hS1 p p0 p1], f2, by omega, k4⟩
          · exact .inr ⟨k1, k2⟩
        · have hA : A ≠ [] := fun e => by
            rw [e] at h1
            have : most ≤ c + ((0 : Nat) : Int) := h1
            omega
          refine ⟨S1, g1, yw_Q_cut hQ hA, .inr ⟨?_, h2⟩⟩
          rw [List.length_append]; omega
theorem yw_ways (tl : yk_tl n ni nr fr to) (hn1 : n ≠ 0) (hm1 : 1 ≤ most) (hm : most ≤ 10000) {f0 : Int} {g0 g1 g5 : Int → Int} :
    ∃ r Nn nm S' g', zf_M_ways most f0 ni z n g0 g1 fr to J g5 = some (r, Nn, nm, S', g') ∧ yw_nmz ni Nn nm ∧ 1 ≤ Nn ∧ (∃ L : List (Int → Int), L = yw_L (yw_ok z n fr nm to J) Nn.toNat 0 (fun _ => 0) ∧ r = (if (L.length : Int) < most then (L.length : Int) else most) ∧ yw_Q Nn nm 0 L g5 g') := by
  obtain ⟨⟨n0, n1⟩, hft, -, hz, hb, -⟩ := id tl
  obtain ⟨Nn, nm, e1, hn⟩ := yw_names (f0 := f0) (ni := ni) (g := g0)
  obtain ⟨⟨m0, m1⟩, -, -, hcov⟩ := id hn
  have hN : 1 ≤ Nn := by
    obtain ⟨⟨a0, a1⟩, -⟩ := hft 0 (Int.le_refl _) (by omega)
    obtain ⟨j, j0, j1, -⟩ := hcov (fr 0).toNat (by omega) ((hb _).mpr ⟨0, Int.le_refl _, by omega, .inl (by omega)⟩)
    omega
  obtain ⟨r, hr⟩ : ∃ r : Nat, Nn = r + 1 := ⟨(Nn - 1).toNat, by omega⟩
  have hTf : yw_T (r + 1) 24 + 1 < zi_fu := by
    have : ∀ r : Nat, r < 8 → yw_T (r + 1) 24 + 1 < zi_fu := by decide
    exact this r (by omega)
  obtain ⟨S', g', hQ, h⟩ := yw_lev (n := n) (ni := ni) (z := z) (Nn := Nn) (most := most) (fr := fr) (nm := nm) (to := to) (J := J) n1 hn hm r 24 0 0 (fun _ => 0) (zv_up g1 0 (-1)) g5 zi_fu (Nat.le_refl _) (by omega) (Int.le_refl _) (fun p p0 p1 => by omega) (by rw [zv_up_s]; decide) (Int.le_refl _) (by omega) hTf
  have hL : yw_cat (fun s => cond (yw_ok z n fr nm to J (fun _ => 0) 0 s) (yw_L (yw_ok z n fr nm to J) r (0 + 1) (zv_up (fun _ => 0) 0 s)) []) 24 = yw_L (yw_ok z n fr nm to J) Nn.toNat 0 (fun _ => 0) := by
    rw [show Nn.toNat = r + 1 by omega]; rfl
  rw [hL] at hQ h
  have fin : zf_M_ways most f0 ni z n g0 g1 fr to J g5 = (zf_M_ways_l0 most Nn z n nm fr to J zi_fu 0 0 (zv_up g1 0 (-1)) g5).bind fun q19 => (some (q19.1, Nn, nm, q19.2.1, q19.2.2)) := by
    unfold zf_M_ways
    rw [e1, zl_b]
  rw [fin]
  rcases h with ⟨h1, h2, f', h3, h4⟩ | ⟨h1, h2⟩
  · rw [Int.zero_add] at h1 h4
    obtain ⟨f', rfl⟩ : ∃ q, f' = q + 1 := ⟨f' - 1, by omega⟩
    have h5 : zf_M_ways_l0 most Nn z n nm fr to J (f' + 1) ((yw_L (yw_ok z n fr nm to J) Nn.toNat 0 (fun _ => 0)).length : Int) (0 - 1) S' g' = some (((yw_L (yw_ok z n fr nm to J) Nn.toNat 0 (fun _ => 0)).length : Int), S', g') := by
      show zf_M_ways_l0_b most Nn z n nm fr to J (zf_M_ways_l0 most Nn z n nm fr to J f') _ (0 - 1) S' g' = _
      unfold zf_M_ways_l0_b
      rw [if_pos (by decide)]
    rw [h4, h5, zl_b]
    exact ⟨_, Nn, nm, S', g', rfl, hn, hN, _, rfl, by rw [if_pos h1], hQ⟩
  · rw [Int.zero_add] at h1
    rw [h2, zl_b]
    exact ⟨_, Nn, nm, S', g', rfl, hn, hN, _, rfl, by rw [if_neg (by omega)], hQ⟩
end YWL
end
section
/-! Whether a tale can be told: both sides answer; what is called by tales, too. -/
section YWT
variable {L : zLW} {K V kd fr hf to C mk mf mh mt : Int → Int} {nc tS tL sP lP mc : Int} {t h u cl sc sr ch ts n ni p : Int} {co ro br wc wr m gp gl nr tf tt : Int → Int}
theorem yw_cbtX (R : yl_R L K V nc tS tL sP lP kd fr hf to mc C mk mf mh mt) (k : yk_sky t h u cl sc sr ch co ro br wc wr m) (p1 : 0 ≤ p) (p2 : p < 288) {vx vy sh as ho f nn dE : Int} {g S J pa ph may nr tw so : Int → Int} (hc : yv_ca L sP h u co ro br as ho) (hp : yv_cp L lP h u co ro br pa ph) (hs : yw_so so) :
    zh_ok (zf_X_canBeTold p vx vy h u sh t sc sr cl tS as ho nc f sP nn tL lP dE g co ro br kd hf to K S V J pa ph may nr tw so) fun o => yv_ca L sP h u co ro br o.2.2.2.2.1 o.2.2.2.2.2.1 ∧ yv_cp L lP h u co ro br o.2.2.2.2.2.2.2.2.2.2.2.1 o.2.2.2.2.2.2.2.2.2.2.2.2.1 ∧ yw_so o.2.2.2.2.2.2.2.2.2.2.2.2.2.2.2 := by
  unfold zf_X_canBeTold
  rw [ze_X_columnOf p1 p2, zl_b, ze_X_rowOf p1 p2, zl_b]
  obtain ⟨s', as', ho', a', g', S', e1, -, c1⟩ := yx_look (f2 := vx) (f3 := vy) (f6 := sh) (f := f) (g := g) (S := S) (x := p % 24) (y := p / 24) R k (by omega) (by omega) (by omega) (by omega) hc
  rw [e1, zl_b]
  dsimp only
  refine zh_bind zh_bc fun r4 _ => zh_bind zh_bc fun r5 _ => zh_ite (fun _ => zh_ret ⟨c1, hp, hs⟩) fun _ => ?_
  obtain ⟨f', J', g2, pa', ph', S2, e2, -, c2⟩ := yx_draw (s := s') (f := a') (J := J) (g := g') (S := S') (x := p % 24) (y := p / 24) R k hp
  rw [e2, zl_b]
  dsimp only
  exact zh_bind (yw_count hs) fun r8 h8 => zh_ite (fun _ => zh_ret ⟨c1, c2, h8⟩) fun _ => zh_ret ⟨c1, c2, h8⟩
theorem yw_cbtM (R : yl_R L K V nc tS tL sP lP kd fr hf to mc C mk mf mh mt) (k : yk_sky t h u cl sc sr ch co ro br wc wr m) (tl : yk_tl n ni nr tf tt) (hn : n ≠ 0) (p1 : 0 ≤ p) (p2 : p < 288) {f1 f2 : Int} {g S J nA sF fF : Int → Int} :
    zh_ok (zf_M_canBeTold p mc f1 f2 ni n m mk g mh mt C S J nA sF tf tt fF) fun _ => True := by
  unfold zf_M_canBeTold
  obtain ⟨s', g', S', J', e1, -, -⟩ := ym_looks (f1 := f1) (g := g) (S := S) (J := J) (x := p % 24) (y := p / 24) R k (by omega) (by omega) (by omega) (by omega)
  rw [show 24 * (p / 24) + p % 24 = p by omega] at e1
  rw [e1, zl_b]
  dsimp only
  obtain ⟨r, Nn, nm, S2, g2, e2, -⟩ := yw_ways (most := 1) (z := s') (J := J') (f0 := f2) (g0 := nA) (g1 := sF) (g5 := fF) tl hn (by decide) (by decide)
  rw [e2, zl_b]
  exact zh_ite (fun _ => zh_ret trivial) fun _ => zh_ret trivial
/-! matched -/
theorem yw_matchedX (R : yl_R L K V nc tS tL sP lP kd fr hf to mc C mk mf mh mt) (k : yk_sky t h u cl sc sr ch co ro br wc wr m) {x y w f5 f6 f7 f10 f16 f18 f22 f25 : Int} {g0 g1 g9 g11 g12 g13 g14 g15 g16 : Int → Int} (hs : yw_so g16) :
    zh_ok (zf_X_matched x y w n f5 f6 f7 h u f10 t sc sr cl tS f16 nc f18 sP tL lP f22 f25 g0 g1 co ro br kd hf to K g9 V g11 g12 g13 g14 g15 g16) fun o => yw_so o.2.2.2.2.2.2.2.2.2.2.2.2.2.2.2 := by
  unfold zf_X_matched
  rw [ze_X_isPlace, zl_b]
  refine zh_ite (fun _ => zh_ret hs) fun q => ?_
  obtain ⟨x1, x2, y1, y2⟩ := zs_pl_ne q
  rw [ze_X_isWithin, zl_b]
  refine zh_ite (fun _ => zh_ret hs) fun q2 => zh_ite (fun _ => zh_ret hs) fun _ => ?_
  obtain ⟨w1, w2⟩ := zs_in_ne q2
  obtain ⟨f3', s', f14', f16', g0', g1', g9', J, g12', e1, i1, l1⟩ := yx_lad (f3 := f5) (f4 := f6) (f5 := f7) (f8 := f10) (f14 := f16) (f16 := f18) (g0 := g0) (g1 := g1) (g9 := g9) (g11 := g11) (g12 := g12) R k x1 (by omega : x ≤ 23) y1 (by omega : y ≤ 11)
  rw [e1, zl_b]
  dsimp only
  exact zh_ite (fun _ => zh_bind (yw_count hs) fun r hr => zh_ret hr) fun q3 => zh_ite (fun _ => zh_ret hs) fun _ => zh_bind (yw_first hs) fun r hr => zh_ite (fun _ => zh_ret hr) fun _ => zh_cond (zi_ix_of (by omega) (by omega)) (zh_ret hr)
theorem yw_matchedM (R : yl_R L K V nc tS tL sP lP kd fr hf to mc C mk mf mh mt) (k : yk_sky t h u cl sc sr ch co ro br wc wr m) (tl : yk_tl n ni nr tf tt) {x y w f2 f4 : Int} {g2 g6 g7 g8 g9 g12 : Int → Int} :
    zh_ok (zf_M_matched x y w n mc f2 ni f4 m mk g2 mh mt C g6 g7 g8 g9 tf tt g12) fun _ => True := by
  unfold zf_M_matched
  rw [ze_M_isPlace, zl_b]
  refine zh_ite (fun _ => zh_ret trivial) fun q => ?_
  obtain ⟨x1, x2, y1, y2⟩ := zs_pl_ne q
  rw [ze_M_in, zl_b]
  refine zh_ite (fun _ => zh_ret trivial) fun q2 => zh_ite (fun _ => zh_ret trivial) fun hn => ?_
  obtain ⟨w1, w2⟩ := zs_in_ne q2
  obtain ⟨s', g', S', J', e1, -, -⟩ := ym_looks (f1 := f2) (g := g2) (S := g6) (J := g7) (x := x) (y := y) R k (by omega) (by omega) (by omega) (by omega)
  rw [zi_w_id (x := 24 * y) (by omega) (by omega), zi_w_id (x := 24 * y + x) (by omega) (by omega), e1, zl_b]
  dsimp only
  refine zh_ite (fun _ => ?_) fun q3 => ?_
  · obtain ⟨r, Nn, nm, S2, g3, e2, -⟩ := yw_ways (most := 10000) (z := s') (J := J') (f0 := f4) (g0 := g8) (g1 := g9) (g5 := g12) tl hn (by decide) (by decide)
    rw [e2, zl_b]
    exact zh_ret trivial
  · rw [ze_has2 (t := ni) (i := w) (by omega) (by omega), zl_b]
    refine zh_ite (fun _ => zh_ret trivial) fun _ => ?_
    obtain ⟨r, Nn, nm, S2, g3, e2, -⟩ := yw_ways (most := 1) (z := s') (J := J') (f0 := f4) (g0 := g8) (g1 := g9) (g5 := g12) tl hn (by decide) (by decide)
    rw [e2, zl_b]
    exact zh_ite (fun _ => zh_cond (zi_ix_of (by omega) (by omega)) (zh_ret trivial)) fun _ => zh_ret trivial
/-! where -/
theorem yw_whereX (R : yl_R L K V nc tS tL sP lP kd fr hf to mc C mk mf mh mt) (k : yk_sky t h u cl sc sr ch co ro br wc wr m) {w f5 f6 f7 f10 f16 f18 f20 f25 : Int} {g0 g1 g9 g11 g12 g13 g14 g15 g16 : Int → Int} (hs : yw_so g16) :
    zh_ok (zf_X_where w n f5 f6 f7 h u f10 t sc sr cl tS f16 nc f18 sP f20 tL lP f25 g0 g1 co ro br kd hf to K g9 V g11 g12 g13 g14 g15 g16) fun o => yw_so o.2.2.2.2.2.2.2.2.2.2.2.2.2.2.2 := by
  unfold zf_X_where
  rw [ze_X_isWithin, zl_b]
  refine zh_ite (fun _ => zh_ret hs) fun q => zh_ite (fun _ => zh_ret hs) fun _ => ?_
  obtain ⟨g0', e0, h0⟩ := ze_open (f := f5) (g := g0)
  rw [e0, zl_b]
  dsimp only
  refine zh_sum (Q := fun q => match q with
    | .inl a => yw_so a.2.2.2.2.2.2.2.2.2.2.2.2.2.2.2
    | .inr b => yw_so b.2.2.2.2.2.2.2.2.2.2.2.2.2.2.2) (zh_loop (F := fun n i (a : Int × Int × Int × Int × Int × Int × Int × Int × (Int → Int) × (Int → Int) × (Int → Int) × (Int → Int) × (Int → Int) × (Int → Int) × (Int → Int) × (Int → Int)) => zf_X_where_l0 w h u t sc sr cl tS nc sP f20 tL lP co ro br kd hf to K V g14 n a.1 i a.2.1 a.2.2.1 a.2.2.2.1 a.2.2.2.2.1 a.2.2.2.2.2.1 a.2.2.2.2.2.2.1 a.2.2.2.2.2.2.2.1 a.2.2.2.2.2.2.2.2.1 a.2.2.2.2.2.2.2.2.2.1 a.2.2.2.2.2.2.2.2.2.2.1 a.2.2.2.2.2.2.2.2.2.2.2.1 a.2.2.2.2.2.2.2.2.2.2.2.2.1 a.2.2.2.2.2.2.2.2.2.2.2.2.2.1 a.2.2.2.2.2.2.2.2.2.2.2.2.2.2.1 a.2.2.2.2.2.2.2.2.2.2.2.2.2.2.2) (N := 288)
      (I := fun _ a => yv_ca L sP h u co ro br a.2.1 a.2.2.2.2.2.1 ∧ yv_cp L lP h u co ro br a.2.2.2.2.2.2.2.2.1 a.2.2.2.2.2.2.2.2.2.2.2.2.1 ∧ yw_so a.2.2.2.2.2.2.2.2.2.2.2.2.2.2.2) (fun n i a i0 i1 ha kk => ?_) 288 0 (0, 0, f6, f7, f10, f16, f18, f25, g0', g1, g9, g11, g12, g13, g15, g16) zi_fu (by decide) (by decide) (by decide) (by decide) ⟨yv_ca0, yv_cp0 h0, hs⟩) (fun a ha => zh_ite (fun _ => zh_ret ha) fun _ => zh_ret ha) fun b hb => zh_ret hb
  obtain ⟨a1, a2, a3, a4, a5, a6, a7, a8, a9, a10, a11, a12, a13, a14, a15, a16⟩ := a
  obtain ⟨hc, hp, hs⟩ := ha
  show zh_ok (zf_X_where_l0_b w h u t sc sr cl tS nc sP f20 tL lP co ro br kd hf to K V g14 (zf_X_where_l0 w h u t sc sr cl tS nc sP f20 tL lP co ro br kd hf to K V g14 n) a1 i a2 a3 a4 a5 a6 a7 a8 a9 a10 a11 a12 a13 a14 a15 a16) _
  unfold zf_X_where_l0_b
  refine zh_ite (fun hi => ?_) fun _ => zh_ret hs
  rw [zi_w_id (x := i + 1) (by omega) (by omega)]
  have k2 : ∀ b1 b2 b3 b4 b5 b6 b7 b8 b9 b10 b11 b12 b13 b14 b15 b16, yv_ca L sP h u co ro br b2 b6 → yv_cp L lP h u co ro br b9 b13 → yw_so b16 → zh_ok (zf_X_where_l0 w h u t sc sr cl tS nc sP f20 tL lP co ro br kd hf to K V g14 n b1 (i + 1) b2 b3 b4 b5 b6 b7 b8 b9 b10 b11 b12 b13 b14 b15 b16) _ := fun b1 b2 b3 b4 b5 b6 b7 b8 b9 b10 b11 b12 b13 b14 b15 b16 q1 q2 q3 => kk (b1, b2, b3, b4, b5, b6, b7, b8, b9, b10, b11, b12, b13, b14, b15, b16) hi ⟨q1, q2, q3⟩
  exact zh_bind (yw_cbtX R k i0 hi hc hp hs) fun r6 h6 => zh_ite (fun _ => k2 _ _ _ _ _ _ _ _ _ _ _ _ _ _ _ _ h6.1 h6.2.1 h6.2.2) fun _ => zh_ite (fun _ => zh_ret h6.2.2) fun _ => k2 _ _ _ _ _ _ _ _ _ _ _ _ _ _ _ _ h6.1 h6.2.1 h6.2.2
theorem yw_whereM (R : yl_R L K V nc tS tL sP lP kd fr hf to mc C mk mf mh mt) (k : yk_sky t h u cl sc sr ch co ro br wc wr m) (tl : yk_tl n ni nr tf tt) {w f2 f3 : Int} {g2 g6 g7 g8 g9 g12 : Int → Int} :
    zh_ok (zf_M_where w n mc f2 f3 ni m mk g2 mh mt C g6 g7 g8 g9 tf tt g12) fun _ => True := by
  unfold zf_M_where
  rw [ze_M_in, zl_b]
  refine zh_ite (fun _ => zh_ret trivial) fun q => zh_ite (fun _ => zh_ret trivial) fun hn => ?_
  refine zh_bind (Q := fun _ => True) (zh_loop (F := fun f i (a : Int × Int × Int × Int × (Int → Int) × (Int → Int) × (Int → Int) × (Int → Int) × (Int → Int) × (Int → Int)) => zf_M_where_l0 n mc ni m mk mh mt C tf tt f a.1 a.2.1 i a.2.2.1 a.2.2.2.1 a.2.2.2.2.1 a.2.2.2.2.2.1 a.2.2.2.2.2.2.1 a.2.2.2.2.2.2.2.1 a.2.2.2.2.2.2.2.2.1 a.2.2.2.2.2.2.2.2.2) (N := 288) (I := fun _ _ => True) (fun f i a i0 i1 _ kk => ?_) 288 0 (0, -2, f2, f3, g2, g6, g7, g8, g9, g12) zi_fu (by decide) (by decide) (by decide) (by decide) trivial) fun q _ => zh_ite (fun _ => zh_ret trivial) fun _ => zh_ret trivial
  obtain ⟨a1, a2, a3, a4, a5, a6, a7, a8, a9, a10⟩ := a
  show zh_ok (zf_M_where_l0_b n mc ni m mk mh mt C tf tt (zf_M_where_l0 n mc ni m mk mh mt C tf tt f) a1 a2 i a3 a4 a5 a6 a7 a8 a9 a10) _
  unfold zf_M_where_l0_b
  refine zh_ite (fun hi => ?_) fun _ => zh_ret trivial
  rw [zi_w_id (x := i + 1) (by omega) (by omega)]
  refine zh_bind (yw_cbtM R k tl hn i0 hi) fun r5 _ => zh_ite (fun _ => kk (_, _, _, _, _, _, _, _, _, _) hi trivial) fun _ => zh_ite (fun _ => kk (_, _, _, _, _, _, _, _, _, _) hi trivial) fun _ => kk (_, _, _, _, _, _, _, _, _, _) hi trivial
/-! when -/
theorem yw_whenM (R : yl_R L K V nc tS tL sP lP kd fr hf to mc C mk mf mh mt) (k : yk_sky t h u cl sc sr ch co ro br wc wr m) (tl : yk_tl n ni nr tf tt) {x y f2 f3 : Int} {g2 g6 g7 g8 g9 g12 : Int → Int} :
    zh_ok (zf_M_when x y n mc f2 f3 ni m mk g2 mh mt C g6 g7 g8 g9 tf tt g12) fun o => ∀ j, o.2.2.2.1 j = m j := by
  unfold zf_M_when
  rw [ze_M_isPlace, zl_b]
  refine zh_ite (fun _ => zh_ret fun _ => rfl) fun q => zh_ite (fun _ => zh_ret fun _ => rfl) fun hn => ?_
  obtain ⟨x1, x2, y1, y2⟩ := zs_pl_ne q
  refine zh_bind (Q := fun q => ∀ j, j ≠ 128 → q.2.2.2.1 j = m j) (zh_loop (F := fun f i (a : Int × Int × Int × (Int → Int) × (Int → Int) × (Int → Int) × (Int → Int) × (Int → Int) × (Int → Int) × (Int → Int)) => zf_M_when_l0 x y n mc ni mk mh mt C tf tt f a.1 i a.2.1 a.2.2.1 a.2.2.2.1 a.2.2.2.2.1 a.2.2.2.2.2.1 a.2.2.2.2.2.2.1 a.2.2.2.2.2.2.2.1 a.2.2.2.2.2.2.2.2.1 a.2.2.2.2.2.2.2.2.2) (N := 24) (I := fun _ a => ∀ j, j ≠ 128 → a.2.2.2.1 j = m j) (fun f i a i0 i1 ha kk => ?_) 24 0 (0, f2, f3, m, g2, g6, g7, g8, g9, g12) zi_fu (by decide) (by decide) (by decide) (by decide) (fun _ _ => rfl)) fun q hq => zh_ret fun j => ?_
  · obtain ⟨a1, a2, a3, a4, a5, a6, a7, a8, a9, a10⟩ := a
    show zh_ok (zf_M_when_l0_b x y n mc ni mk mh mt C tf tt (zf_M_when_l0 x y n mc ni mk mh mt C tf tt f) a1 i a2 a3 a4 a5 a6 a7 a8 a9 a10) _
    unfold zf_M_when_l0_b
    refine zh_ite (fun hi => ?_) fun _ => zh_ret ha
    have hm : ∀ j, j ≠ 128 → zv_up a4 128 i j = m j := fun j j1 => by rw [zv_up_n j1]; exact ha j j1
    have k2 := yk_hour (h2 := i) (u2 := u) (m2 := zv_up a4 128 i) k i0 (by omega) zv_up_s (by rw [hm 129 (by decide)]; exact k.2.2.1) (fun j j1 _ => hm j j1)
    rw [zi_w_id (x := i + 1) (by omega) (by omega), zi_w_id (x := 24 * y) (by omega) (by omega), zi_w_id (x := 24 * y + x) (by omega) (by omega)]
    exact zh_bind (yw_cbtM R k2 tl hn (by omega) (by omega)) fun r5 _ => zh_ite (fun _ => kk (_, _, _, _, _, _, _, _, _, _) hi hm) fun _ => kk (_, _, _, _, _, _, _, _, _, _) hi hm
  · show zv_up q.2.2.2.1 128 (m 128) j = m j
    by_cases e : j = 128
    · subst e; rw [zv_up_s]
    · rw [zv_up_n e]; exact hq j e
theorem yw_whenX (R : yl_R L K V nc tS tL sP lP kd fr hf to mc C mk mf mh mt) (k : yk_sky t h u cl sc sr ch co ro br wc wr m) {x y f3 f5 f7 f9 f11 f13 f15 f19 f20 f21 f22 f24 f26 f28 f33 : Int} {g1 g3 g5 g7 g9 g10 g11 g16 g18 g19 g20 g21 g22 g23 : Int → Int} (hs : yw_so g23) :
    zh_ok (zf_X_when x y n t f3 h f5 u f7 cl f9 sc f11 sr f13 ch f15 f19 f20 f21 f22 tS f24 nc f26 sP f28 tL lP f33 co g1 ro g3 br g5 wc g7 wr g9 g10 g11 kd hf to K g16 V g18 g19 g20 g21 g22 g23) fun o => yw_so o.2.2.2.2.2.2.2.2.2.2.2.2.2.2.2.2.2.2.2.2.2.2.2.2.2.2.2 := by
  unfold zf_X_when
  rw [ze_X_isPlace, zl_b]
  refine zh_ite (fun _ => zh_ret hs) fun q => zh_ite (fun _ => zh_ret hs) fun _ => ?_
  obtain ⟨x1, x2, y1, y2⟩ := zs_pl_ne q
  unfold zf_Sky_copyFrom
  rw [zl_b]
  dsimp only
  have k2 : yk_sky t h u cl sc sr ch (zv_cpy co g1 24) (zv_cpy ro g3 24) (zv_cpy br g5 24) (zv_cpy wc g7 24) (zv_cpy wr g9 24) m := yk_sky_cg k (fun j j1 j2 => zv_cpy_in j2) (fun j j1 j2 => zv_cpy_in j2) (fun j j1 j2 => zv_cpy_in j2) (fun j j1 j2 => zv_cpy_in j2) (fun j j1 j2 => zv_cpy_in j2) (fun _ _ _ => rfl)
  generalize zv_cpy co g1 24 = co2 at k2 ⊢
  generalize zv_cpy ro g3 24 = ro2 at k2 ⊢
  generalize zv_cpy br g5 24 = br2 at k2 ⊢
  generalize zv_cpy wc g7 24 = wc2 at k2 ⊢
  generalize zv_cpy wr g9 24 = wr2 at k2 ⊢
  refine zh_bind (Q := fun q => yw_so q.2.2.2.2.2.2.2.2.2.2.2.2.2.2.2.2) (zh_loop (F := fun n i (a : Int × Int × Int × Int × Int × Int × Int × Int × Int × (Int → Int) × (Int → Int) × (Int → Int) × (Int → Int) × (Int → Int) × (Int → Int) × (Int → Int) × (Int → Int)) => zf_X_when_l0 x y t u cl sc sr tS nc sP f28 tL lP co2 ro2 br2 kd hf to K V g21 n a.1 i a.2.1 a.2.2.1 a.2.2.2.1 a.2.2.2.2.1 a.2.2.2.2.2.1 a.2.2.2.2.2.2.1 a.2.2.2.2.2.2.2.1 a.2.2.2.2.2.2.2.2.1 a.2.2.2.2.2.2.2.2.2.1 a.2.2.2.2.2.2.2.2.2.2.1 a.2.2.2.2.2.2.2.2.2.2.2.1 a.2.2.2.2.2.2.2.2.2.2.2.2.1 a.2.2.2.2.2.2.2.2.2.2.2.2.2.1 a.2.2.2.2.2.2.2.2.2.2.2.2.2.2.1 a.2.2.2.2.2.2.2.2.2.2.2.2.2.2.2.1 a.2.2.2.2.2.2.2.2.2.2.2.2.2.2.2.2) (N := 24)
      (I := fun _ a => yw_so a.2.2.2.2.2.2.2.2.2.2.2.2.2.2.2.2) (fun n i a i0 i1 ha kk => ?_) 24 0 (0, h, f19, f20, f21, f22, f24, f26, f33, g10, g11, g16, g18, g19, g20, g22, g23) zi_fu (by decide) (by decide) (by decide) (by decide) hs) fun q hq => zh_ret hq
  obtain ⟨a1, a2, a3, a4, a5, a6, a7, a8, a9, a10, a11, a12, a13, a14, a15, a16, a17⟩ := a
  show zh_ok (zf_X_when_l0_b x y t u cl sc sr tS nc sP f28 tL lP co2 ro2 br2 kd hf to K V g21 (zf_X_when_l0 x y t u cl sc sr tS nc sP f28 tL lP co2 ro2 br2 kd hf to K V g21 n) a1 i a2 a3 a4 a5 a6 a7 a8 a9 a10 a11 a12 a13 a14 a15 a16 a17) _
  unfold zf_X_when_l0_b
  refine zh_ite (fun hi => ?_) fun _ => zh_ret ha
  obtain ⟨gA, e0, h0⟩ := ze_open (f := a3) (g := a10)
  rw [e0, zl_b, ze_X_placeOf x1 x2 y1 y2, zl_b, zi_w_id (x := i + 1) (by omega) (by omega)]
  dsimp only
  have k3 := yk_hour (h2 := i) (u2 := u) (m2 := zv_up m 128 i) k2 i0 (by omega) zv_up_s (by rw [zv_up_n (by decide)]; exact k2.2.2.1) (fun j j1 _ => zv_up_n j1)
  have k4 : ∀ b1 b2 b3 b4 b5 b6 b7 b8 b9 b10 b11 b12 b13 b14 b15 b16 b17, yw_so b17 → zh_ok (zf_X_when_l0 x y t u cl sc sr tS nc sP f28 tL lP co2 ro2 br2 kd hf to K V g21 n b1 (i + 1) b2 b3 b4 b5 b6 b7 b8 b9 b10 b11 b12 b13 b14 b15 b16 b17) _ := fun b1 b2 b3 b4 b5 b6 b7 b8 b9 b10 b11 b12 b13 b14 b15 b16 b17 q => kk (b1, b2, b3, b4, b5, b6, b7, b8, b9, b10, b11, b12, b13, b14, b15, b16, b17) hi q
  exact zh_bind (yw_cbtX R k3 (by omega) (by omega) yv_ca0 (yv_cp0 h0) ha) fun r8 h8 => zh_ite (fun _ => k4 _ _ _ _ _ _ _ _ _ _ _ _ _ _ _ _ _ h8.2.2) fun _ => k4 _ _ _ _ _ _ _ _ _ _ _ _ _ _ _ _ _ h8.2.2
end YWT
end
section
/-! The next set with as many bits is a greater one; hidden, both, log: both sides answer. -/
theorem zh_loop2 {α β : Type} {F : Nat → α → Option β} {μ : α → Nat} {I : α → Prop} {P : β → Prop} (hs : ∀ (n : Nat) (a : α), I a → (∀ a', μ a' < μ a → I a' → zh_ok (F n a') P) → zh_ok (F (n + 1) a) P) :
    ∀ (d : Nat) (a : α) (n : Nat), μ a ≤ d → d < n → I a → zh_ok (F n a) P := by
  intro d
  induction d with
  | zero =>
    intro a n e hn h
    obtain ⟨n, rfl⟩ : ∃ q, n = q + 1 := ⟨n - 1, by omega⟩
    exact hs n a h fun a' hlt _ => by omega
  | succ d ih =>
    intro a n e hn h
    obtain ⟨n, rfl⟩ : ∃ q, n = q + 1 := ⟨n - 1, by omega⟩
    exact hs n a h fun a' hlt h' => ih a' n (by omega) (by omega) h'
theorem zw_low {x : Int} (h1 : 0 < x) (h2 : x < 16777216) : ∃ r : Nat, r < 24 ∧ zb x r = true ∧ (∀ j, j < r → zb x j = false) ∧ zi_and x (zi_w (-x)) = ((2 ^ r : Nat) : Int) ∧ ((2 ^ r : Nat) : Int) ≤ x := by
  have hx : z24 x := ⟨by omega, by omega⟩
  have hex : ∃ j, j < 24 ∧ zb x j = true := by
    by_cases q : ∃ j, j < 24 ∧ zb x j = true
    · exact q
    · have := (z24_z hx).mpr fun j hj => by
        cases c : zb x j
        · rfl
        · exact absurd ⟨j, hj, c⟩ q
      omega
  obtain ⟨r, r1, r2, r3⟩ := yn_low 24 hex
  have hand : zi_and x (zi_w (-x)) = zi_shl 1 r := by
    refine z24_ext (z24_and hx) (z24_shl (by omega) (by omega)) fun j hj => ?_
    rw [zb_and, zb_neg hx.1 (by omega) (by omega), zb_shl (by omega) (by omega), Int.toNat_natCast]
    by_cases e : j = r
    · subst e
      rw [r2, decide_eq_true (rfl : j = j)]
      have : ¬ ∃ i, i < j ∧ zb x i = true := fun ⟨i, a, b⟩ => by rw [r3 i a] at b; cases b
      rw [decide_eq_false this]; rfl
    · rw [decide_eq_false e]
      by_cases c : j < r
      · rw [r3 j c, Bool.false_and]
      · rw [decide_eq_true (⟨r, by omega, r2⟩ : ∃ i, i < j ∧ zb x i = true)]
        cases zb x j <;> rfl
  have hs : zi_shl 1 (r : Int) = ((2 ^ r : Nat) : Int) := by
    have := zi_shl1 (i := (r : Int)) (by omega) (by omega)
    rwa [Int.toNat_natCast] at this
  refine ⟨r, r1, r2, r3, hand.trans hs, ?_⟩
  have hb : x.toNat.testBit r = true := by rw [← zb_tb (by omega) (by omega)]; exact r2
  have := Nat.ge_two_pow_of_testBit hb
  omega
theorem zw_gos {α : Type} {x : Int} {k : Int → Option α} {P : α → Prop} (h1 : 0 < x) (h2 : x < 16777216) (h : ∀ v, x < v → v < 67108864 → zh_ok (k v) P) :
    zh_ok (cond (zi_ne (zi_and x (zi_w (-x)))) (zi_let (zi_or (zi_w (x + (zi_and x (zi_w (-x))))) (zi_shr (zi_div (zi_xor x (zi_w (x + (zi_and x (zi_w (-x)))))) (zi_and x (zi_w (-x)))) 2)) k) none) P := by
  obtain ⟨r, r1, -, -, e, le⟩ := zw_low h1 h2
  have hp : 0 < 2 ^ r := Nat.two_pow_pos r
  rw [e]
  generalize 2 ^ r = p at le hp
  refine zh_cond (zi_ne_of (by omega)) ?_
  rw [zi_w_id (x := x + (p : Int)) (by omega) (by omega)]
  show zh_ok (k (zi_or (x + (p : Int)) (zi_shr (zi_div (zi_xor x (x + (p : Int))) (p : Int)) 2))) P
  have hx := zi_xor_nat (a := x) (b := x + p) (by omega) (by omega) (by omega) (by omega)
  have lx : x.toNat ^^^ (x + (p : Int)).toNat < 2 ^ 25 := Nat.xor_lt_two_pow (by omega) (by omega)
  rw [hx]
  generalize x.toNat ^^^ (x + (p : Int)).toNat = a at lx
  rw [zi_div_eq (by omega) (by omega) (by omega) (by omega)]
  have d1 : 0 ≤ (a : Int) / (p : Int) := Int.ediv_nonneg (by omega) (by omega)
  have d2 : (a : Int) / (p : Int) ≤ a := Int.ediv_le_self _ (by omega)
  generalize (a : Int) / (p : Int) = d at d1 d2
  rw [zi_shr_eq (by omega) (by omega) (by decide) (by decide), show (((2 ^ (2 : Int).toNat : Nat)) : Int) = 4 from rfl]
  have s1 : 0 ≤ d / 4 := by omega
  have s2 : d / 4 ≤ d := by omega
  generalize d / 4 = s at s1 s2
  rw [zi_or_nat (by omega) (by omega) s1 (by omega)]
  have l1 : (x + (p : Int)).toNat ≤ (x + (p : Int)).toNat ||| s.toNat := Nat.left_le_or
  have l2 : (x + (p : Int)).toNat ||| s.toNat < 2 ^ 26 := Nat.or_lt_two_pow (by omega) (by omega)
  generalize (x + (p : Int)).toNat ||| s.toNat = v at l1 l2
  exact h v (by omega) (by omega)
section YWH
variable {L : zLW} {K V kd fr hf to C mk mf mh mt : Int → Int} {nc tS tL sP lP mc : Int} {t h u cl sc sr ch ts n ni p : Int} {co ro br wc wr m gp gl nr tf tt : Int → Int}
theorem yw_hiddenX (R : yl_R L K V nc tS tL sP lP kd fr hf to mc C mk mf mh mt) (k : yk_sky t h u cl sc sr ch co ro br wc wr m) {x y w f5 f6 f7 f10 f16 f18 f24 f25 f26 : Int} {g0 g1 g9 g11 g12 g13 g14 g15 g16 : Int → Int} (hs : yw_so g16) :
    zh_ok (zf_X_hidden x y w n f5 f6 f7 h u f10 t sc sr cl tS f16 nc f18 sP tL lP f24 f25 f26 g0 g1 co ro br kd hf to K g9 V g11 g12 g13 g14 g15 g16) fun o => yw_so o.2.2.2.2.2.2.2.2.2.2.2.2.2.2.2.2 := by
  unfold zf_X_hidden
  rw [ze_X_isPlace, zl_b]
  refine zh_ite (fun _ => zh_ret hs) fun q => ?_
  obtain ⟨x1, x2, y1, y2⟩ := zs_pl_ne q
  rw [ze_X_isWithin, zl_b]
  refine zh_ite (fun _ => zh_ret hs) fun q2 => zh_ite (fun _ => zh_ret hs) fun _ => ?_
  obtain ⟨f3', s', f14', f16', g0', g1', g9', J, g12', e1, i1, l1⟩ := yx_lad (f3 := f5) (f4 := f6) (f5 := f7) (f8 := f10) (f14 := f16) (f16 := f18) (g0 := g0) (g1 := g1) (g9 := g9) (g11 := g11) (g12 := g12) R k x1 (by omega : x ≤ 23) y1 (by omega : y ≤ 11)
  rw [e1, zl_b]
  dsimp only
  exact zh_bind (yw_count hs) fun r hr => zh_ite (fun _ => zh_ret hr) fun _ => zh_bind (yw_fewest hr) fun r9 h9 => zh_ite (fun _ => zh_ret h9) fun _ => zh_ite (fun _ => zh_bind zh_bc fun _ _ => zh_ret h9) fun _ => zh_ret h9
theorem yw_leastM (R : yl_R L K V nc tS tL sP lP kd fr hf to mc C mk mf mh mt) (k : yk_sky t h u cl sc sr ch co ro br wc wr m) (tl : yk_tl n ni nr tf tt) (hn : n ≠ 0) (p1 : 0 ≤ p) (p2 : p < 288) {q may : Int} (q1 : 1 ≤ q) (q2 : q ≤ 4) {f1 f2 : Int} {m1 g2 g6 g7 g8 g9 g12 : Int → Int} (hm : ∀ j, m1 j = m j) :
    zh_ok (zf_M_leastClouds p q may mc f1 f2 ni n m1 mk g2 mh mt C g6 g7 g8 g9 tf tt g12) fun o => ∀ j, o.2.2.2.1 j = m j := by
  unfold zf_M_leastClouds
  have hst : zi_w (zi_shl 1 q - 1) = 1 ∨ zi_w (zi_shl 1 q - 1) = 3 ∨ zi_w (zi_shl 1 q - 1) = 7 ∨ zi_w (zi_shl 1 q - 1) = 15 := by
    have : ∀ q : Nat, q < 5 → 1 ≤ q → zi_w (zi_shl 1 (q : Int) - 1) = 1 ∨ zi_w (zi_shl 1 (q : Int) - 1) = 3 ∨ zi_w (zi_shl 1 (q : Int) - 1) = 7 ∨ zi_w (zi_shl 1 (q : Int) - 1) = 15 := by decide +kernel
    have h := this q.toNat (by omega) (by omega)
    rwa [Int.toNat_of_nonneg (by omega)] at h
  have hwas : m1 130 = cl := by rw [hm]; exact k.2.2.2.1.2
  have hcl := k.2.2.2.1.1
  refine zh_sum (Q := fun q => match q with
    | .inl a => ∀ j, a.2.2.1 j = m j
    | .inr b => ∀ j, b.2.2.2.1 j = m j) (zh_loop2 (F := fun f (a : Int × Int × Int × (Int → Int) × (Int → Int) × (Int → Int) × (Int → Int) × (Int → Int) × (Int → Int) × (Int → Int)) => zf_M_leastClouds_l0 p may (m1 130) mc ni n mk mh mt C tf tt f a.1 a.2.1 a.2.2.1 a.2.2.2.1 a.2.2.2.2.1 a.2.2.2.2.2.1 a.2.2.2.2.2.2.1 a.2.2.2.2.2.2.2.1 a.2.2.2.2.2.2.2.2.1 a.2.2.2.2.2.2.2.2.2) (μ := fun a => (16777216 - a.1).toNat)
      (I := fun a => 0 < a.1 ∧ ∀ j, a.2.2.2.1 j = m j) (fun f a ha kk => ?_) 16777216 (zi_w (zi_shl 1 q - 1), f1, f2, m1, g2, g6, g7, g8, g9, g12) zi_fu (by show (16777216 - zi_w (zi_shl 1 q - 1)).toNat ≤ 16777216; omega) (by decide) ⟨by show 0 < zi_w (zi_shl 1 q - 1); omega, hm⟩) (fun a ha => zh_ret ha) fun b hb => zh_ret hb
  obtain ⟨a1, a2, a3, a4, a5, a6, a7, a8, a9, a10⟩ := a
  obtain ⟨ha0, ha⟩ := ha
  show zh_ok (zf_M_leastClouds_l0_b p may (m1 130) mc ni n mk mh mt C tf tt (zf_M_leastClouds_l0 p may (m1 130) mc ni n mk mh mt C tf tt f) a1 a2 a3 a4 a5 a6 a7 a8 a9 a10) _
  unfold zf_M_leastClouds_l0_b
  have ha0 : 0 < a1 := ha0
  have ha : ∀ j, a4 j = m j := ha
  refine zh_ite (fun hi => zh_ite (fun _ => ?_) fun _ => ?_) fun _ => zh_ret ha
  · have k2 := yk_cl2 (k := k) (c2 := zi_or (m1 130) a1) (h2 := ch) (m2 := zv_up a4 130 (zi_or (m1 130) a1)) (by rw [hwas]; exact z24_or hcl ⟨by omega, by omega⟩) k.2.2.2.2.2.2.1.1.1 k.2.2.2.2.2.2.1.1.2 zv_up_s (by rw [zv_up_n (by decide), ha]; exact k.2.2.2.2.2.2.1.2) (fun j j1 _ => by rw [zv_up_n j1, ha])
    have hm2 : ∀ j, zv_up (zv_up a4 130 (zi_or (m1 130) a1)) 130 (m1 130) j = m j := fun j => by
      by_cases e : j = 130
      · subst e; rw [zv_up_s]; exact hm 130
      · rw [zv_up_n e, zv_up_n e, ha]
    refine zh_bind (yw_cbtM R k2 tl hn p1 p2) fun r5 _ => zh_ite (fun _ => zh_ret hm2) fun _ => zw_gos ha0 hi fun v v1 v2 => ?_
    exact kk (_, _, _, _, _, _, _, _, _, _) (by show (16777216 - v).toNat < (16777216 - a1).toNat; omega) ⟨by show 0 < v; omega, hm2⟩
  · refine zw_gos ha0 hi fun v v1 v2 => ?_
    exact kk (_, _, _, _, _, _, _, _, _, _) (by show (16777216 - v).toNat < (16777216 - a1).toNat; omega) ⟨by show 0 < v; omega, ha⟩
theorem yw_hiddenM (R : yl_R L K V nc tS tL sP lP kd fr hf to mc C mk mf mh mt) (k : yk_sky t h u cl sc sr ch co ro br wc wr m) (tl : yk_tl n ni nr tf tt) {x y w f2 f3 : Int} {g2 g6 g7 g8 g9 g12 : Int → Int} :
    zh_ok (zf_M_hidden x y w n mc f2 f3 ni m mk g2 mh mt C g6 g7 g8 g9 tf tt g12) fun o => ∀ j, o.2.2.2.1 j = m j := by
  unfold zf_M_hidden
  rw [ze_M_isPlace, zl_b]
  refine zh_ite (fun _ => zh_ret fun _ => rfl) fun q => ?_
  obtain ⟨x1, x2, y1, y2⟩ := zs_pl_ne q
  rw [ze_M_in, zl_b]
  refine zh_ite (fun _ => zh_ret fun _ => rfl) fun q2 => zh_ite (fun _ => zh_ret fun _ => rfl) fun hn => ?_
  rw [zi_w_id (x := 24 * y) (by omega) (by omega), zi_w_id (x := 24 * y + x) (by omega) (by omega)]
  refine zh_bind (yw_cbtM R k tl hn (by omega) (by omega)) fun r6 _ => zh_ite (fun _ => zh_ret fun _ => rfl) fun _ => zh_bind (Q := fun _ => True) ?_ fun q12 _ => ?_
  · refine zh_loop (F := fun f i (a : Int) => zf_M_hidden_l0 r6.2.1 m f a i) (N := 24) (I := fun _ _ => True) (fun f i a i0 i1 _ kk => ?_) 24 0 0 zi_fu (by decide) (by decide) (by decide) (by decide) trivial
    show zh_ok (zf_M_hidden_l0_b r6.2.1 m (zf_M_hidden_l0 r6.2.1 m f) a i) _
    unfold zf_M_hidden_l0_b
    refine zh_ite (fun hi => ?_) fun _ => zh_ret trivial
    rw [zi_w_id (x := i + 1) (by omega) (by omega), ze_has2 i0 (by omega), zl_b]
    refine zh_ite (fun _ => kk _ hi trivial) fun _ => ?_
    unfold zf_M_standsAt
    rw [zi_w_id (x := 0 + i) (by omega) (by omega)]
    exact zh_bind (zh_cond (zi_ix_of (by omega) (by omega)) (zh_ret (P := fun _ => True) trivial)) fun _ _ => kk _ hi trivial
  · refine zh_sum (Q := fun q => match q with
      | .inl a => ∀ j, a.2.2.1 j = m j
      | .inr b => ∀ j, b.2.2.2.1 j = m j) (zh_loop (F := fun f i (a : Int × Int × (Int → Int) × (Int → Int) × (Int → Int) × (Int → Int) × (Int → Int) × (Int → Int) × (Int → Int)) => zf_M_hidden_l1 w (24 * y + x) q12 n mc ni mk mh mt C tf tt f i a.1 a.2.1 a.2.2.1 a.2.2.2.1 a.2.2.2.2.1 a.2.2.2.2.2.1 a.2.2.2.2.2.2.1 a.2.2.2.2.2.2.2.1 a.2.2.2.2.2.2.2.2) (N := 5)
        (I := fun i a => 1 ≤ i ∧ ∀ j, a.2.2.1 j = m j) (fun f i a i0 i1 ha kk => ?_) 5 1 (_, _, m, _, _, _, _, _, _) zi_fu (by decide) (by decide) (by decide) (by decide) ⟨by decide, fun _ => rfl⟩) (fun a ha => zh_ret ha) fun b hb => zh_ret hb
    obtain ⟨a1, a2, a3, a4, a5, a6, a7, a8, a9⟩ := a
    obtain ⟨ha0, ha⟩ := ha
    show zh_ok (zf_M_hidden_l1_b w (24 * y + x) q12 n mc ni mk mh mt C tf tt (zf_M_hidden_l1 w (24 * y + x) q12 n mc ni mk mh mt C tf tt f) i a1 a2 a3 a4 a5 a6 a7 a8 a9) _
    unfold zf_M_hidden_l1_b
    refine zh_ite (fun _ => zh_ret ha) fun hi => ?_
    rw [zi_w_id (x := i + 1) (by omega) (by omega)]
    refine zh_bind (yw_leastM R k tl hn (by omega) (by omega) ha0 (by omega) ha) fun r14 h14 => zh_ite (fun _ => ?_) fun _ => zh_ite (fun _ => zh_ret h14) fun _ => zh_ret h14
    exact kk (_, _, _, _, _, _, _, _, _) (by omega) ⟨by omega, h14⟩
/-! both -/
theorem yw_bothX (R : yl_R L K V nc tS tL sP lP kd fr hf to mc C mk mf mh mt) (k : yk_sky t h u cl sc sr ch co ro br wc wr m) {x y w f3 f4 f5 f8 f14 f16 f22 f23 f24 f25 f26 f31 f32 : Int} {g0 g1 g9 g11 g12 g13 g14 g15 g16 g17 g18 g19 : Int → Int} (hs : yw_so g19) :
    zh_ok (zf_X_both x y w f3 f4 f5 h u f8 t sc sr cl tS f14 nc f16 sP tL lP f22 f23 f24 f25 f26 n f31 f32 g0 g1 co ro br kd hf to K g9 V g11 g12 g13 g14 g15 g16 g17 g18 g19) fun o => yw_so o.2.2.2.2.2.2.2.2.2.2.2.2.2.2.2.2.2.2.2.2.2.2.2 := by
  unfold zf_X_both
  rw [ze_X_isWithin, zl_b]
  refine zh_ite (fun _ => zh_ret hs) fun q => ?_
  rw [ze_X_isWithin, zl_b]
  refine zh_ite (fun _ => zh_ret hs) fun q2 => ?_
  rw [ze_X_isWithin, zl_b]
  refine zh_ite (fun _ => zh_ret hs) fun q3 => ?_
  obtain ⟨x1, x2⟩ := zs_in_ne q
  obtain ⟨y1, y2⟩ := zs_in_ne q2
  have tail : zh_ok ((zf_X_columnOf x).bind fun r23 => ((zf_X_rowOf x).bind fun r24 => ((zf_X_lookAndDraw r23 r24 f3 f4 f5 h u f8 t sc sr cl tS f14 nc f16 sP tL lP g0 g1 co ro br kd hf to K g9 V g11 g12).bind fun r25 => ((zf_X_columnOf y).bind fun r26 => ((zf_X_rowOf y).bind fun r27 => ((zf_X_lookAndDraw r26 r27 f22 f23 f24 h u f25 t sc sr cl tS f26 nc r25.2.2.2.2.2.1 sP tL lP g13 r25.2.2.2.2.2.2.2.1 co ro br kd hf to K r25.2.2.2.2.2.2.2.2.1 V g14 g15).bind fun r28 => zf_View_keepShared r25.2.2.2.1 r28.2.2.2.1 r25.2.2.2.2.2.2.2.2.2.1 r28.2.2.2.2.2.2.2.2.2.1)))))) fun o => ∀ j : Nat, j < 24 → z24 (o.2 j) := by
    rw [ze_X_columnOf x1 (by omega), zl_b, ze_X_rowOf x1 (by omega), zl_b]
    obtain ⟨f3', s', f14', f16', g0', g1', g9', J, g12', e1, i1, l1⟩ := yx_lad (f3 := f3) (f4 := f4) (f5 := f5) (f8 := f8) (f14 := f14) (f16 := f16) (g0 := g0) (g1 := g1) (g9 := g9) (g11 := g11) (g12 := g12) (x := x % 24) (y := x / 24) R k (by omega) (by omega) (by omega) (by omega)
    rw [e1, zl_b, ze_X_columnOf y1 (by omega), zl_b, ze_X_rowOf y1 (by omega), zl_b]
    dsimp only
    obtain ⟨f3'', s'', f14'', f16'', g0'', g1'', g9'', J2, g12'', e2, i2, l2⟩ := yx_lad (f3 := f22) (f4 := f23) (f5 := f24) (f8 := f25) (f14 := f26) (f16 := f16') (g0 := g13) (g1 := g1') (g9 := g9') (g11 := g14) (g12 := g15) (x := y % 24) (y := y / 24) R k (by omega) (by omega) (by omega) (by omega)
    rw [e2, zl_b]
    dsimp only
    obtain ⟨g2, e3, h3⟩ := yb_keep (f0 := s') (f1 := s'') (g := J) (g1 := J2)
    exact ⟨_, e3, fun j hj => by show z24 (g2 j); rw [h3 j (by omega) (by omega)]; exact z24_and (l1 j hj).1⟩
  obtain ⟨oo, eo, ho⟩ := tail
  have go : ∀ {Z : Type} (F : (Int × Int × Int × Int × Int × Int × (Int → Int) × (Int → Int) × (Int → Int) × (Int → Int) × (Int → Int)) → (Int × Int × Int × Int × Int × Int × (Int → Int) × (Int → Int) × (Int → Int) × (Int → Int) × (Int → Int)) → (Int × (Int → Int)) → Option Z) (P : Z → Prop), (∀ a b c, (∀ j : Nat, j < 24 → z24 (c.2 j)) → zh_ok (F a b c) P) →
      zh_ok ((zf_X_columnOf x).bind fun r23 => ((zf_X_rowOf x).bind fun r24 => ((zf_X_lookAndDraw r23 r24 f3 f4 f5 h u f8 t sc sr cl tS f14 nc f16 sP tL lP g0 g1 co ro br kd hf to K g9 V g11 g12).bind fun r25 => ((zf_X_columnOf y).bind fun r26 => ((zf_X_rowOf y).bind fun r27 => ((zf_X_lookAndDraw r26 r27 f22 f23 f24 h u f25 t sc sr cl tS f26 nc r25.2.2.2.2.2.1 sP tL lP g13 r25.2.2.2.2.2.2.2.1 co ro br kd hf to K r25.2.2.2.2.2.2.2.2.1 V g14 g15).bind fun r28 => ((zf_View_keepShared r25.2.2.2.1 r28.2.2.2.1 r25.2.2.2.2.2.2.2.2.2.1 r28.2.2.2.2.2.2.2.2.2.1).bind fun r29 => F r25 r28 r29))))))) P := by
    intro Z F P hF
    rw [ze_X_columnOf x1 (by omega), zl_b, ze_X_rowOf x1 (by omega), zl_b] at eo ⊢
    obtain ⟨a, ea, eo⟩ := zi_bind eo
    rw [ea, zl_b]
    rw [ze_X_columnOf y1 (by omega), zl_b, ze_X_rowOf y1 (by omega), zl_b] at eo ⊢
    obtain ⟨b, eb, eo⟩ := zi_bind eo
    rw [eb, zl_b, eo, zl_b]
    exact hF a b oo ho
  refine zh_ite (fun _ => zh_ite (fun _ => zh_ret hs) fun _ => ?_) fun _ => ?_
  · refine go _ _ fun a b c hc => zh_ite (fun _ => zh_bind (yw_count hs) fun r hr => zh_ret hr) fun _ => ?_
    obtain ⟨q, eq, -⟩ := yo_lines (G := c.2) (H := c.2) hc (fun _ _ => rfl)
    rw [eq, zl_b]
    exact zh_ret hs
  · refine go _ _ fun a b c hc => ?_
    obtain ⟨q, eq, -⟩ := yo_lines (G := c.2) (H := c.2) hc (fun _ _ => rfl)
    first
      | exact zh_ite (fun _ => zh_ret hs) fun _ => by rw [eq, zl_b]; exact zh_ret hs
      | exact zh_ite (fun _ => zh_bind (yw_count hs) fun r hr => zh_ret hr) fun _ => zh_ite (fun _ => zh_ret hs) fun _ => by rw [eq, zl_b]; exact zh_ret hs
theorem yw_bothM (R : yl_R L K V nc tS tL sP lP kd fr hf to mc C mk mf mh mt) (k : yk_sky t h u cl sc sr ch co ro br wc wr m) (tl : yk_tl n ni nr tf tt) {x y w f1 f3 : Int} {g2 g6 g7 g8 g9 g10 g13 : Int → Int} :
    zh_ok (zf_M_both x y w mc f1 n f3 ni m mk g2 mh mt C g6 g7 g8 g9 g10 tf tt g13) fun _ => True := by
  unfold zf_M_both
  rw [ze_M_in, zl_b]
  refine zh_ite (fun _ => zh_ret trivial) fun q => ?_
  rw [ze_M_in, zl_b]
  refine zh_ite (fun _ => zh_ret trivial) fun q2 => ?_
  rw [ze_M_in, zl_b]
  refine zh_ite (fun _ => zh_ret trivial) fun q3 => ?_
  obtain ⟨x1, x2⟩ := zs_in_ne q
  obtain ⟨y1, y2⟩ := zs_in_ne q2
  obtain ⟨f3', s', f14', f16', g0', g1', g9', J, g12', e1, i1, l1⟩ := yx_lad (f3 := 0) (f4 := 0) (f5 := 0) (f8 := 0) (f14 := 0) (f16 := 0) (g0 := fun _ => 0) (g1 := fun _ => 0) (g9 := fun _ => 0) (g11 := fun _ => 0) (g12 := fun _ => 0) (x := x % 24) (y := x / 24) R k (by omega) (by omega) (by omega) (by omega)
  obtain ⟨f3'', s'', f14'', f16'', g0'', g1'', g9'', J2, g12'', e2, i2, l2⟩ := yx_lad (f3 := 0) (f4 := 0) (f5 := 0) (f8 := 0) (f14 := 0) (f16 := 0) (g0 := fun _ => 0) (g1 := fun _ => 0) (g9 := fun _ => 0) (g11 := fun _ => 0) (g12 := fun _ => 0) (x := y % 24) (y := y / 24) R k (by omega) (by omega) (by omega) (by omega)
  obtain ⟨g2', g6', H, g8', e3, h3⟩ := ym_both (p := x) (q := y) (f1 := f1) (g2 := g2) (g6 := g6) (g7 := g7) (g8 := g8) R k x1 (by omega) y1 (by omega) i1 l1 i2 l2
  rw [e3, zl_b, zl_b]
  dsimp only
  obtain ⟨c, -, ec, -⟩ := yo_lines (G := H) (H := H) (fun j hj => by rw [h3 j (by omega) (by omega)]; exact z24_and (l1 j hj).1) (fun _ _ => rfl)
  refine zh_ite (fun _ => zh_ite (fun _ => zh_ret trivial) fun hn => ?_) fun _ => zh_ite (fun _ => zh_ret trivial) fun _ => ?_
  · obtain ⟨r, Nn, nm, S2, g3, e4, -⟩ := yw_ways (most := 10000) (z := zi_and s' s'') (J := H) (f0 := f3) (g0 := g9) (g1 := g10) (g5 := g13) tl hn (by decide) (by decide)
    rw [e4, zl_b]
    exact zh_ret trivial
  · rw [ec, zl_b]
    exact zh_ret trivial
end YWH
end
