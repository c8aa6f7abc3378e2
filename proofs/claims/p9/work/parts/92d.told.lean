/-! Whether a tale can be told: both sides answer; what is called by tales, too. -/
section YWT
variable {L : zLW} {K V kd fr hf to C mk mf mh mt : Int → Int} {nc tS tL sP lP mc : Int} {t h u cl sc sr ch ts n ni p : Int} {co ro br wc wr m gp gl nr tf tt : Int → Int}
theorem yw_cbtX (R : yl_R L K V nc tS tL sP lP kd fr hf to mc C mk mf mh mt) (k : yk_sky t h u cl sc sr ch co ro br wc wr m) (p1 : 0 ≤ p) (p2 : p < 288) {vx vy sh as ho f nn dE : Int} {g S J pa ph may nr tw so : Int → Int} (hc : yv_ca L sP h u co ro br as ho) (hp : yv_cp L lP h u co ro br pa ph) (hs : yw_so so) :
    zh_ok (zf_X_canBeTold p vx vy h u sh t sc sr cl tS as ho nc f sP nn tL lP dE g co ro br kd hf to K S V J pa ph may nr tw so) fun o => yv_ca L sP h u co ro br o.2.2.2.2.1 o.2.2.2.2.2.1 ∧ yv_cp L lP h u co ro br o.2.2.2.2.2.2.2.2.2.2.2.1 o.2.2.2.2.2.2.2.2.2.2.2.2.1 ∧ yw_so o.2.2.2.2.2.2.2.2.2.2.2.2.2.2.2 := by
  unfold zf_X_canBeTold
  rw [ze_X_columnOf p1 p2, zl_b, ze_X_rowOf p1 p2, zl_b]
  obtain ⟨s', as', ho', a', g', S', e1, -, c1⟩ := yx_look (f2 := vx) (f3 := vy) (f6 := sh) (f := f) (g := g) (S := S) (x := p % 24) (y := p / 24) R k (by omega) (by omega) (by omega) (by omega) hc
  rw [e1, zl_b]
  dsimp only
  refine zh_bind zh_bc fun r4 _ => zh_bind zh_bc fun r5 _ => zh_ite (fun _ => zh_ret ⟨c1, hp, hs⟩) fun _ => ?_
  obtain ⟨f', J', g2, pa', ph', S2, e2, -, c2⟩ := yx_draw (s := s') (f := a') (J := J) (g := g') (S := S') (x := p % 24) (y := p / 24) R k hp
  rw [e2, zl_b]
  dsimp only
  exact zh_bind (yw_count hs) fun r8 h8 => zh_ite (fun _ => zh_ret ⟨c1, c2, h8⟩) fun _ => zh_ret ⟨c1, c2, h8⟩
theorem yw_cbtM (R : yl_R L K V nc tS tL sP lP kd fr hf to mc C mk mf mh mt) (k : yk_sky t h u cl sc sr ch co ro br wc wr m) (tl : yk_tl n ni nr tf tt) (hn : n ≠ 0) (p1 : 0 ≤ p) (p2 : p < 288) {f1 f2 : Int} {g S J nA sF fF : Int → Int} :
    zh_ok (zf_M_canBeTold p mc f1 f2 ni n m mk g mh mt C S J nA sF tf tt fF) fun _ => True := by
  unfold zf_M_canBeTold
  obtain ⟨s', g', S', J', e1, -, -⟩ := ym_looks (f1 := f1) (g := g) (S := S) (J := J) (x := p % 24) (y := p / 24) R k (by omega) (by omega) (by omega) (by omega)
  rw [show 24 * (p / 24) + p % 24 = p by omega] at e1
  rw [e1, zl_b]
  dsimp only
  obtain ⟨r, Nn, nm, S2, g2, e2, -⟩ := yw_ways (most := 1) (z := s') (J := J') (f0 := f2) (g0 := nA) (g1 := sF) (g5 := fF) tl hn (by decide) (by decide)
  rw [e2, zl_b]
  exact zh_ite (fun _ => zh_ret trivial) fun _ => zh_ret trivial
/-! matched -/
theorem yw_matchedX (R : yl_R L K V nc tS tL sP lP kd fr hf to mc C mk mf mh mt) (k : yk_sky t h u cl sc sr ch co ro br wc wr m) {x y w f5 f6 f7 f10 f16 f18 f22 f25 : Int} {g0 g1 g9 g11 g12 g13 g14 g15 g16 : Int → Int} (hs : yw_so g16) :
    zh_ok (zf_X_matched x y w n f5 f6 f7 h u f10 t sc sr cl tS f16 nc f18 sP tL lP f22 f25 g0 g1 co ro br kd hf to K g9 V g11 g12 g13 g14 g15 g16) fun o => yw_so o.2.2.2.2.2.2.2.2.2.2.2.2.2.2.2 := by
  unfold zf_X_matched
  rw [ze_X_isPlace, zl_b]
  refine zh_ite (fun _ => zh_ret hs) fun q => ?_
  obtain ⟨x1, x2, y1, y2⟩ := zs_pl_ne q
  rw [ze_X_isWithin, zl_b]
  refine zh_ite (fun _ => zh_ret hs) fun q2 => zh_ite (fun _ => zh_ret hs) fun _ => ?_
  obtain ⟨w1, w2⟩ := zs_in_ne q2
  obtain ⟨f3', s', f14', f16', g0', g1', g9', J, g12', e1, i1, l1⟩ := yx_lad (f3 := f5) (f4 := f6) (f5 := f7) (f8 := f10) (f14 := f16) (f16 := f18) (g0 := g0) (g1 := g1) (g9 := g9) (g11 := g11) (g12 := g12) R k x1 (by omega : x ≤ 23) y1 (by omega : y ≤ 11)
  rw [e1, zl_b]
  dsimp only
  exact zh_ite (fun _ => zh_bind (yw_count hs) fun r hr => zh_ret hr) fun q3 => zh_ite (fun _ => zh_ret hs) fun _ => zh_bind (yw_first hs) fun r hr => zh_ite (fun _ => zh_ret hr) fun _ => zh_cond (zi_ix_of (by omega) (by omega)) (zh_ret hr)
theorem yw_matchedM (R : yl_R L K V nc tS tL sP lP kd fr hf to mc C mk mf mh mt) (k : yk_sky t h u cl sc sr ch co ro br wc wr m) (tl : yk_tl n ni nr tf tt) {x y w f2 f4 : Int} {g2 g6 g7 g8 g9 g12 : Int → Int} :
    zh_ok (zf_M_matched x y w n mc f2 ni f4 m mk g2 mh mt C g6 g7 g8 g9 tf tt g12) fun _ => True := by
  unfold zf_M_matched
  rw [ze_M_isPlace, zl_b]
  refine zh_ite (fun _ => zh_ret trivial) fun q => ?_
  obtain ⟨x1, x2, y1, y2⟩ := zs_pl_ne q
  rw [ze_M_in, zl_b]
  refine zh_ite (fun _ => zh_ret trivial) fun q2 => zh_ite (fun _ => zh_ret trivial) fun hn => ?_
  obtain ⟨w1, w2⟩ := zs_in_ne q2
  obtain ⟨s', g', S', J', e1, -, -⟩ := ym_looks (f1 := f2) (g := g2) (S := g6) (J := g7) (x := x) (y := y) R k (by omega) (by omega) (by omega) (by omega)
  rw [zi_w_id (x := 24 * y) (by omega) (by omega), zi_w_id (x := 24 * y + x) (by omega) (by omega), e1, zl_b]
  dsimp only
  refine zh_ite (fun _ => ?_) fun q3 => ?_
  · obtain ⟨r, Nn, nm, S2, g3, e2, -⟩ := yw_ways (most := 10000) (z := s') (J := J') (f0 := f4) (g0 := g8) (g1 := g9) (g5 := g12) tl hn (by decide) (by decide)
    rw [e2, zl_b]
    exact zh_ret trivial
  · rw [ze_has2 (t := ni) (i := w) (by omega) (by omega), zl_b]
    refine zh_ite (fun _ => zh_ret trivial) fun _ => ?_
    obtain ⟨r, Nn, nm, S2, g3, e2, -⟩ := yw_ways (most := 1) (z := s') (J := J') (f0 := f4) (g0 := g8) (g1 := g9) (g5 := g12) tl hn (by decide) (by decide)
    rw [e2, zl_b]
    exact zh_ite (fun _ => zh_cond (zi_ix_of (by omega) (by omega)) (zh_ret trivial)) fun _ => zh_ret trivial
/-! where -/
theorem yw_whereX (R : yl_R L K V nc tS tL sP lP kd fr hf to mc C mk mf mh mt) (k : yk_sky t h u cl sc sr ch co ro br wc wr m) {w f5 f6 f7 f10 f16 f18 f20 f25 : Int} {g0 g1 g9 g11 g12 g13 g14 g15 g16 : Int → Int} (hs : yw_so g16) :
    zh_ok (zf_X_where w n f5 f6 f7 h u f10 t sc sr cl tS f16 nc f18 sP f20 tL lP f25 g0 g1 co ro br kd hf to K g9 V g11 g12 g13 g14 g15 g16) fun o => yw_so o.2.2.2.2.2.2.2.2.2.2.2.2.2.2.2 := by
  unfold zf_X_where
  rw [ze_X_isWithin, zl_b]
  refine zh_ite (fun _ => zh_ret hs) fun q => zh_ite (fun _ => zh_ret hs) fun _ => ?_
  obtain ⟨g0', e0, h0⟩ := ze_open (f := f5) (g := g0)
  rw [e0, zl_b]
  dsimp only
  refine zh_sum (Q := fun q => match q with
    | .inl a => yw_so a.2.2.2.2.2.2.2.2.2.2.2.2.2.2.2
    | .inr b => yw_so b.2.2.2.2.2.2.2.2.2.2.2.2.2.2.2) (zh_loop (F := fun n i (a : Int × Int × Int × Int × Int × Int × Int × Int × (Int → Int) × (Int → Int) × (Int → Int) × (Int → Int) × (Int → Int) × (Int → Int) × (Int → Int) × (Int → Int)) => zf_X_where_l0 w h u t sc sr cl tS nc sP f20 tL lP co ro br kd hf to K V g14 n a.1 i a.2.1 a.2.2.1 a.2.2.2.1 a.2.2.2.2.1 a.2.2.2.2.2.1 a.2.2.2.2.2.2.1 a.2.2.2.2.2.2.2.1 a.2.2.2.2.2.2.2.2.1 a.2.2.2.2.2.2.2.2.2.1 a.2.2.2.2.2.2.2.2.2.2.1 a.2.2.2.2.2.2.2.2.2.2.2.1 a.2.2.2.2.2.2.2.2.2.2.2.2.1 a.2.2.2.2.2.2.2.2.2.2.2.2.2.1 a.2.2.2.2.2.2.2.2.2.2.2.2.2.2.1 a.2.2.2.2.2.2.2.2.2.2.2.2.2.2.2) (N := 288)
      (I := fun _ a => yv_ca L sP h u co ro br a.2.1 a.2.2.2.2.2.1 ∧ yv_cp L lP h u co ro br a.2.2.2.2.2.2.2.2.1 a.2.2.2.2.2.2.2.2.2.2.2.2.1 ∧ yw_so a.2.2.2.2.2.2.2.2.2.2.2.2.2.2.2) (fun n i a i0 i1 ha kk => ?_) 288 0 (0, 0, f6, f7, f10, f16, f18, f25, g0', g1, g9, g11, g12, g13, g15, g16) zi_fu (by decide) (by decide) (by decide) (by decide) ⟨yv_ca0, yv_cp0 h0, hs⟩) (fun a ha => zh_ite (fun _ => zh_ret ha) fun _ => zh_ret ha) fun b hb => zh_ret hb
  obtain ⟨a1, a2, a3, a4, a5, a6, a7, a8, a9, a10, a11, a12, a13, a14, a15, a16⟩ := a
  obtain ⟨hc, hp, hs⟩ := ha
  show zh_ok (zf_X_where_l0_b w h u t sc sr cl tS nc sP f20 tL lP co ro br kd hf to K V g14 (zf_X_where_l0 w h u t sc sr cl tS nc sP f20 tL lP co ro br kd hf to K V g14 n) a1 i a2 a3 a4 a5 a6 a7 a8 a9 a10 a11 a12 a13 a14 a15 a16) _
  unfold zf_X_where_l0_b
  refine zh_ite (fun hi => ?_) fun _ => zh_ret hs
  rw [zi_w_id (x := i + 1) (by omega) (by omega)]
  have k2 : ∀ b1 b2 b3 b4 b5 b6 b7 b8 b9 b10 b11 b12 b13 b14 b15 b16, yv_ca L sP h u co ro br b2 b6 → yv_cp L lP h u co ro br b9 b13 → yw_so b16 → zh_ok (zf_X_where_l0 w h u t sc sr cl tS nc sP f20 tL lP co ro br kd hf to K V g14 n b1 (i + 1) b2 b3 b4 b5 b6 b7 b8 b9 b10 b11 b12 b13 b14 b15 b16) _ := fun b1 b2 b3 b4 b5 b6 b7 b8 b9 b10 b11 b12 b13 b14 b15 b16 q1 q2 q3 => kk (b1, b2, b3, b4, b5, b6, b7, b8, b9, b10, b11, b12, b13, b14, b15, b16) hi ⟨q1, q2, q3⟩
  exact zh_bind (yw_cbtX R k i0 hi hc hp hs) fun r6 h6 => zh_ite (fun _ => k2 _ _ _ _ _ _ _ _ _ _ _ _ _ _ _ _ h6.1 h6.2.1 h6.2.2) fun _ => zh_ite (fun _ => zh_ret h6.2.2) fun _ => k2 _ _ _ _ _ _ _ _ _ _ _ _ _ _ _ _ h6.1 h6.2.1 h6.2.2
theorem yw_whereM (R : yl_R L K V nc tS tL sP lP kd fr hf to mc C mk mf mh mt) (k : yk_sky t h u cl sc sr ch co ro br wc wr m) (tl : yk_tl n ni nr tf tt) {w f2 f3 : Int} {g2 g6 g7 g8 g9 g12 : Int → Int} :
    zh_ok (zf_M_where w n mc f2 f3 ni m mk g2 mh mt C g6 g7 g8 g9 tf tt g12) fun _ => True := by
  unfold zf_M_where
  rw [ze_M_in, zl_b]
  refine zh_ite (fun _ => zh_ret trivial) fun q => zh_ite (fun _ => zh_ret trivial) fun hn => ?_
  refine zh_bind (Q := fun _ => True) (zh_loop (F := fun f i (a : Int × Int × Int × Int × (Int → Int) × (Int → Int) × (Int → Int) × (Int → Int) × (Int → Int) × (Int → Int)) => zf_M_where_l0 n mc ni m mk mh mt C tf tt f a.1 a.2.1 i a.2.2.1 a.2.2.2.1 a.2.2.2.2.1 a.2.2.2.2.2.1 a.2.2.2.2.2.2.1 a.2.2.2.2.2.2.2.1 a.2.2.2.2.2.2.2.2.1 a.2.2.2.2.2.2.2.2.2) (N := 288) (I := fun _ _ => True) (fun f i a i0 i1 _ kk => ?_) 288 0 (0, -2, f2, f3, g2, g6, g7, g8, g9, g12) zi_fu (by decide) (by decide) (by decide) (by decide) trivial) fun q _ => zh_ite (fun _ => zh_ret trivial) fun _ => zh_ret trivial
  obtain ⟨a1, a2, a3, a4, a5, a6, a7, a8, a9, a10⟩ := a
  show zh_ok (zf_M_where_l0_b n mc ni m mk mh mt C tf tt (zf_M_where_l0 n mc ni m mk mh mt C tf tt f) a1 a2 i a3 a4 a5 a6 a7 a8 a9 a10) _
  unfold zf_M_where_l0_b
  refine zh_ite (fun hi => ?_) fun _ => zh_ret trivial
  rw [zi_w_id (x := i + 1) (by omega) (by omega)]
  refine zh_bind (yw_cbtM R k tl hn i0 hi) fun r5 _ => zh_ite (fun _ => kk (_, _, _, _, _, _, _, _, _, _) hi trivial) fun _ => zh_ite (fun _ => kk (_, _, _, _, _, _, _, _, _, _) hi trivial) fun _ => kk (_, _, _, _, _, _, _, _, _, _) hi trivial
/-! when -/
theorem yw_whenM (R : yl_R L K V nc tS tL sP lP kd fr hf to mc C mk mf mh mt) (k : yk_sky t h u cl sc sr ch co ro br wc wr m) (tl : yk_tl n ni nr tf tt) {x y f2 f3 : Int} {g2 g6 g7 g8 g9 g12 : Int → Int} :
    zh_ok (zf_M_when x y n mc f2 f3 ni m mk g2 mh mt C g6 g7 g8 g9 tf tt g12) fun o => ∀ j, o.2.2.2.1 j = m j := by
  unfold zf_M_when
  rw [ze_M_isPlace, zl_b]
  refine zh_ite (fun _ => zh_ret fun _ => rfl) fun q => zh_ite (fun _ => zh_ret fun _ => rfl) fun hn => ?_
  obtain ⟨x1, x2, y1, y2⟩ := zs_pl_ne q
  refine zh_bind (Q := fun q => ∀ j, j ≠ 128 → q.2.2.2.1 j = m j) (zh_loop (F := fun f i (a : Int × Int × Int × (Int → Int) × (Int → Int) × (Int → Int) × (Int → Int) × (Int → Int) × (Int → Int) × (Int → Int)) => zf_M_when_l0 x y n mc ni mk mh mt C tf tt f a.1 i a.2.1 a.2.2.1 a.2.2.2.1 a.2.2.2.2.1 a.2.2.2.2.2.1 a.2.2.2.2.2.2.1 a.2.2.2.2.2.2.2.1 a.2.2.2.2.2.2.2.2.1 a.2.2.2.2.2.2.2.2.2) (N := 24) (I := fun _ a => ∀ j, j ≠ 128 → a.2.2.2.1 j = m j) (fun f i a i0 i1 ha kk => ?_) 24 0 (0, f2, f3, m, g2, g6, g7, g8, g9, g12) zi_fu (by decide) (by decide) (by decide) (by decide) (fun _ _ => rfl)) fun q hq => zh_ret fun j => ?_
  · obtain ⟨a1, a2, a3, a4, a5, a6, a7, a8, a9, a10⟩ := a
    show zh_ok (zf_M_when_l0_b x y n mc ni mk mh mt C tf tt (zf_M_when_l0 x y n mc ni mk mh mt C tf tt f) a1 i a2 a3 a4 a5 a6 a7 a8 a9 a10) _
    unfold zf_M_when_l0_b
    refine zh_ite (fun hi => ?_) fun _ => zh_ret ha
    have hm : ∀ j, j ≠ 128 → zv_up a4 128 i j = m j := fun j j1 => by rw [zv_up_n j1]; exact ha j j1
    have k2 := yk_hour (h2 := i) (u2 := u) (m2 := zv_up a4 128 i) k i0 (by omega) zv_up_s (by rw [hm 129 (by decide)]; exact k.2.2.1) (fun j j1 _ => hm j j1)
    rw [zi_w_id (x := i + 1) (by omega) (by omega), zi_w_id (x := 24 * y) (by omega) (by omega), zi_w_id (x := 24 * y + x) (by omega) (by omega)]
    exact zh_bind (yw_cbtM R k2 tl hn (by omega) (by omega)) fun r5 _ => zh_ite (fun _ => kk (_, _, _, _, _, _, _, _, _, _) hi hm) fun _ => kk (_, _, _, _, _, _, _, _, _, _) hi hm
  · show zv_up q.2.2.2.1 128 (m 128) j = m j
    by_cases e : j = 128
    · subst e; rw [zv_up_s]
    · rw [zv_up_n e]; exact hq j e
theorem yw_whenX (R : yl_R L K V nc tS tL sP lP kd fr hf to mc C mk mf mh mt) (k : yk_sky t h u cl sc sr ch co ro br wc wr m) {x y f3 f5 f7 f9 f11 f13 f15 f19 f20 f21 f22 f24 f26 f28 f33 : Int} {g1 g3 g5 g7 g9 g10 g11 g16 g18 g19 g20 g21 g22 g23 : Int → Int} (hs : yw_so g23) :
    zh_ok (zf_X_when x y n t f3 h f5 u f7 cl f9 sc f11 sr f13 ch f15 f19 f20 f21 f22 tS f24 nc f26 sP f28 tL lP f33 co g1 ro g3 br g5 wc g7 wr g9 g10 g11 kd hf to K g16 V g18 g19 g20 g21 g22 g23) fun o => yw_so o.2.2.2.2.2.2.2.2.2.2.2.2.2.2.2.2.2.2.2.2.2.2.2.2.2.2.2 := by
  unfold zf_X_when
  rw [ze_X_isPlace, zl_b]
  refine zh_ite (fun _ => zh_ret hs) fun q => zh_ite (fun _ => zh_ret hs) fun _ => ?_
  obtain ⟨x1, x2, y1, y2⟩ := zs_pl_ne q
  unfold zf_Sky_copyFrom
  rw [zl_b]
  dsimp only
  have k2 : yk_sky t h u cl sc sr ch (zv_cpy co g1 24) (zv_cpy ro g3 24) (zv_cpy br g5 24) (zv_cpy wc g7 24) (zv_cpy wr g9 24) m := yk_sky_cg k (fun j j1 j2 => zv_cpy_in j2) (fun j j1 j2 => zv_cpy_in j2) (fun j j1 j2 => zv_cpy_in j2) (fun j j1 j2 => zv_cpy_in j2) (fun j j1 j2 => zv_cpy_in j2) (fun _ _ _ => rfl)
  generalize zv_cpy co g1 24 = co2 at k2 ⊢
  generalize zv_cpy ro g3 24 = ro2 at k2 ⊢
  generalize zv_cpy br g5 24 = br2 at k2 ⊢
  generalize zv_cpy wc g7 24 = wc2 at k2 ⊢
  generalize zv_cpy wr g9 24 = wr2 at k2 ⊢
  refine zh_bind (Q := fun q => yw_so q.2.2.2.2.2.2.2.2.2.2.2.2.2.2.2.2) (zh_loop (F := fun n i (a : Int × Int × Int × Int × Int × Int × Int × Int × Int × (Int → Int) × (Int → Int) × (Int → Int) × (Int → Int) × (Int → Int) × (Int → Int) × (Int → Int) × (Int → Int)) => zf_X_when_l0 x y t u cl sc sr tS nc sP f28 tL lP co2 ro2 br2 kd hf to K V g21 n a.1 i a.2.1 a.2.2.1 a.2.2.2.1 a.2.2.2.2.1 a.2.2.2.2.2.1 a.2.2.2.2.2.2.1 a.2.2.2.2.2.2.2.1 a.2.2.2.2.2.2.2.2.1 a.2.2.2.2.2.2.2.2.2.1 a.2.2.2.2.2.2.2.2.2.2.1 a.2.2.2.2.2.2.2.2.2.2.2.1 a.2.2.2.2.2.2.2.2.2.2.2.2.1 a.2.2.2.2.2.2.2.2.2.2.2.2.2.1 a.2.2.2.2.2.2.2.2.2.2.2.2.2.2.1 a.2.2.2.2.2.2.2.2.2.2.2.2.2.2.2.1 a.2.2.2.2.2.2.2.2.2.2.2.2.2.2.2.2) (N := 24)
      (I := fun _ a => yw_so a.2.2.2.2.2.2.2.2.2.2.2.2.2.2.2.2) (fun n i a i0 i1 ha kk => ?_) 24 0 (0, h, f19, f20, f21, f22, f24, f26, f33, g10, g11, g16, g18, g19, g20, g22, g23) zi_fu (by decide) (by decide) (by decide) (by decide) hs) fun q hq => zh_ret hq
  obtain ⟨a1, a2, a3, a4, a5, a6, a7, a8, a9, a10, a11, a12, a13, a14, a15, a16, a17⟩ := a
  show zh_ok (zf_X_when_l0_b x y t u cl sc sr tS nc sP f28 tL lP co2 ro2 br2 kd hf to K V g21 (zf_X_when_l0 x y t u cl sc sr tS nc sP f28 tL lP co2 ro2 br2 kd hf to K V g21 n) a1 i a2 a3 a4 a5 a6 a7 a8 a9 a10 a11 a12 a13 a14 a15 a16 a17) _
  unfold zf_X_when_l0_b
  refine zh_ite (fun hi => ?_) fun _ => zh_ret ha
  obtain ⟨gA, e0, h0⟩ := ze_open (f := a3) (g := a10)
  rw [e0, zl_b, ze_X_placeOf x1 x2 y1 y2, zl_b, zi_w_id (x := i + 1) (by omega) (by omega)]
  dsimp only
  have k3 := yk_hour (h2 := i) (u2 := u) (m2 := zv_up m 128 i) k2 i0 (by omega) zv_up_s (by rw [zv_up_n (by decide)]; exact k2.2.2.1) (fun j j1 _ => zv_up_n j1)
  have k4 : ∀ b1 b2 b3 b4 b5 b6 b7 b8 b9 b10 b11 b12 b13 b14 b15 b16 b17, yw_so b17 → zh_ok (zf_X_when_l0 x y t u cl sc sr tS nc sP f28 tL lP co2 ro2 br2 kd hf to K V g21 n b1 (i + 1) b2 b3 b4 b5 b6 b7 b8 b9 b10 b11 b12 b13 b14 b15 b16 b17) _ := fun b1 b2 b3 b4 b5 b6 b7 b8 b9 b10 b11 b12 b13 b14 b15 b16 b17 q => kk (b1, b2, b3, b4, b5, b6, b7, b8, b9, b10, b11, b12, b13, b14, b15, b16, b17) hi q
  exact zh_bind (yw_cbtX R k3 (by omega) (by omega) yv_ca0 (yv_cp0 h0) ha) fun r8 h8 => zh_ite (fun _ => k4 _ _ _ _ _ _ _ _ _ _ _ _ _ _ _ _ _ h8.2.2) fun _ => k4 _ _ _ _ _ _ _ _ _ _ _ _ _ _ _ _ _ h8.2.2
end YWT
