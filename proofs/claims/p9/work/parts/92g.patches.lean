/-! alike, known: both sides answer. -/
section YWP
variable {L : zLW} {K V kd fr hf to C mk mf mh mt : Int → Int} {nc tS tL sP lP mc : Int} {t h u cl sc sr ch : Int} {co ro br wc wr m : Int → Int} {T M : Int → Int}
theorem yw_fill {p s : Int} {g0 : Int → Int} (k : yk_sky t h u cl sc sr ch co ro br wc wr m) (p1 : 0 ≤ p) (p2 : p < 288) : zh_ok (zf_Patches_fillParts_24 s p h g0 co ro br) fun o => 0 ≤ o.1 ∧ o.1 ≤ 24 := by
  obtain ⟨-, ⟨⟨h1, h2⟩, -⟩, -, -, -, -, -, ki⟩ := id k
  refine zh_bind (Q := fun q => 0 ≤ q.1 ∧ q.1 ≤ 24) (zh_loop (F := fun n i (a : Int × (Int → Int)) => zf_Patches_fillParts_24_l0 s p h co ro br n a.1 i a.2) (N := 24) (I := fun _ a => 0 ≤ a.1 ∧ a.1 ≤ 24) (fun n i a i0 i1 ha kk => ?_) 24 0 (0, g0) zi_fu (by decide) (by decide) (by decide) (by decide) ⟨Int.le_refl 0, (by decide : (0 : Int) ≤ 24)⟩) fun q hq => zh_ret hq
  obtain ⟨a1, a2⟩ := a
  obtain ⟨b1, b2⟩ := ha
  have b1 : 0 ≤ a1 := b1
  have b2 : a1 ≤ 24 := b2
  show zh_ok (zf_Patches_fillParts_24_l0_b s p h co ro br (zf_Patches_fillParts_24_l0 s p h co ro br n) a1 i a2) _
  unfold zf_Patches_fillParts_24_l0_b
  refine zh_ite (fun hi => ?_) fun _ => zh_ret ⟨b1, b2⟩
  obtain ⟨⟨⟨c1, c2⟩, -⟩, -⟩ := ki i i0 hi
  have hst := yv_st_in (h := h) (co := co) (i := i)
  have k2 : ∀ x y, 0 ≤ x → x ≤ 24 → zh_ok (zf_Patches_fillParts_24_l0 s p h co ro br n x (i + 1) y) _ := fun x y x1 x2 => kk (x, y) hi ⟨x1, x2⟩
  rw [zi_w_id (x := i + 1) (by omega) (by omega), ze_Sky_standing i0 hi c1 c2 h1 h2, zl_b, show (co i + h) % 24 = yv_st h co i from rfl, ze_X_columnOf p1 p2, zl_b, ze_X_rowOf p1 p2, zi_w_id (x := yv_st h co i - p % 24) (by omega) (by omega), ze_floorMod (by omega) (by omega), zl_b, zl_b, zl_b]
  refine zh_ite (fun _ => k2 _ _ b1 b2) fun _ => zh_ite (fun hlt => ?_) fun _ => k2 _ _ b1 b2
  rw [zi_w_id (x := a1 + 1) (by omega) (by omega)]
  exact zh_ite (fun _ => zh_cond (zi_ix_of i0 (by omega)) (zh_bind (Q := fun _ => True) (zh_ret trivial) fun _ _ => zh_cond (zi_ix_of b1 (by omega)) (k2 _ _ (by omega) (by omega)))) fun _ => zh_cond (zi_ix_of i0 (by omega)) (zh_bind (Q := fun _ => True) (zh_ret trivial) fun _ _ => zh_cond (zi_ix_of b1 (by omega)) (k2 _ _ (by omega) (by omega)))
theorem yw_marks {p s : Int} {g12 g11 : Int → Int} (p1 : 0 ≤ p) (p2 : p < 288) (s1 : 0 ≤ s) (s2 : s ≤ 24) : zh_ok (zf_Patches_lookEverywhere_al_l1 p s g12 zi_fu 0 g11) fun _ => True := by
  refine zh_loop (F := fun n i (a : Int → Int) => zf_Patches_lookEverywhere_al_l1 p s g12 n i a) (N := s) (I := fun _ _ => True) (fun n i a i0 i1 _ kk => ?_) 24 0 g11 zi_fu (by omega) (by decide) s1 (by decide) trivial
  show zh_ok (zf_Patches_lookEverywhere_al_l1_b p s g12 (zf_Patches_lookEverywhere_al_l1 p s g12 n) i a) _
  unfold zf_Patches_lookEverywhere_al_l1_b
  refine zh_ite (fun hi => ?_) fun _ => zh_ret trivial
  rw [zi_w_id (x := i + 1) (by omega) (by omega)]
  exact zh_cond (zi_ix_of p1 (by omega)) (zh_cond (zi_ix_of i0 (by omega)) (kk _ hi trivial))
theorem yw_every (R : yl_R L K V nc tS tL sP lP kd fr hf to mc C mk mf mh mt) (k : yk_sky t h u cl sc sr ch co ro br wc wr m) {f2 f3 f6 f13 f15 : Int} {g0 g8 g10 g11 g12 : Int → Int} :
    zh_ok (zf_Patches_lookEverywhere_al f2 f3 h u f6 t sc sr cl tS 0 f13 nc f15 sP g0 co ro br kd hf to K g8 V g10 g11 g12) fun _ => True := by
  unfold zf_Patches_lookEverywhere_al
  refine zh_bind (Q := fun _ => True) (zh_loop (F := fun n i (a : Int × Int × Int × Int × Int × Int × (Int → Int) × (Int → Int) × (Int → Int) × (Int → Int) × (Int → Int)) => zf_Patches_lookEverywhere_al_l0 h u t sc sr cl tS nc sP co ro br kd hf to K V n i a.1 a.2.1 a.2.2.1 a.2.2.2.1 a.2.2.2.2.1 a.2.2.2.2.2.1 a.2.2.2.2.2.2.1 a.2.2.2.2.2.2.2.1 a.2.2.2.2.2.2.2.2.1 a.2.2.2.2.2.2.2.2.2.1 a.2.2.2.2.2.2.2.2.2.2) (N := 288)
    (I := fun _ a => yv_ca L sP h u co ro br a.2.2.2.1 a.2.2.2.2.1) (fun n i a i0 i1 ha kk => ?_) 288 0 (f2, f3, f6, 0, f13, f15, g0, g8, g10, g11, g12) zi_fu (by decide) (by decide) (by decide) (by decide) yv_ca0) fun q _ => zh_ret trivial
  obtain ⟨a1, a2, a3, a4, a5, a6, a7, a8, a9, a10, a11⟩ := a
  have ha : yv_ca L sP h u co ro br a4 a5 := ha
  show zh_ok (zf_Patches_lookEverywhere_al_l0_b h u t sc sr cl tS nc sP co ro br kd hf to K V (zf_Patches_lookEverywhere_al_l0 h u t sc sr cl tS nc sP co ro br kd hf to K V n) i a1 a2 a3 a4 a5 a6 a7 a8 a9 a10 a11) _
  unfold zf_Patches_lookEverywhere_al_l0_b
  refine zh_ite (fun hi => ?_) fun _ => zh_ret trivial
  obtain ⟨s', as', ho', a', g', S', e1, -, c1⟩ := yx_look (f2 := a1) (f3 := a2) (f6 := a3) (f := a6) (g := a7) (S := a8) (x := i % 24) (y := i / 24) R k (by omega) (by omega) (by omega) (by omega) ha
  rw [ze_X_columnOf i0 hi, zl_b, ze_X_rowOf i0 hi, zl_b, e1, zl_b, zi_w_id (x := i + 1) (by omega) (by omega)]
  dsimp only
  have k2 : ∀ b1 b2 b3 b4 b5 b6 b7 b8 b9 b10 b11, yv_ca L sP h u co ro br b4 b5 → zh_ok (zf_Patches_lookEverywhere_al_l0 h u t sc sr cl tS nc sP co ro br kd hf to K V n (i + 1) b1 b2 b3 b4 b5 b6 b7 b8 b9 b10 b11) _ := fun b1 b2 b3 b4 b5 b6 b7 b8 b9 b10 b11 q => kk (b1, b2, b3, b4, b5, b6, b7, b8, b9, b10, b11) hi q
  exact zh_cond (zi_ix_of i0 (by omega)) (zh_bind (yw_fill k i0 hi) fun r6 h6 => zh_bind (yw_marks i0 hi h6.1 h6.2) fun q _ => k2 _ _ _ _ _ _ _ _ _ _ _ c1)
theorem yw_has2424 {x1 x3 : Int} {g0 g1 : Int → Int} (a1 : x1 ≤ 24) (b0 : 0 ≤ x3) (b1 : x3 ≤ 24) : zh_ok (zf_Patches_hasAll_24_24 x1 x3 g0 g1) fun _ => True := by
  unfold zf_Patches_hasAll_24_24
  refine zh_sum (Q := fun _ => True) (zh_loop (F := fun n i (_ : Unit) => zf_Patches_hasAll_24_24_l0 x1 x3 g0 g1 n i) (N := x3) (I := fun _ _ => True) (fun n i a i0 i1 _ kk => ?_) 24 0 () zi_fu (by omega) (by decide) b0 (by decide) trivial) (fun _ _ => zh_ret trivial) fun _ _ => zh_ret trivial
  show zh_ok (zf_Patches_hasAll_24_24_l0_b x1 x3 g0 g1 (zf_Patches_hasAll_24_24_l0 x1 x3 g0 g1 n) i) _
  unfold zf_Patches_hasAll_24_24_l0_b
  refine zh_ite (fun hi => ?_) fun _ => zh_ret trivial
  rw [zi_w_id (x := i + 1) (by omega) (by omega)]
  refine zh_bind (Q := fun _ => True) (zh_loop (F := fun n j (a : Int) => zf_Patches_hasAll_24_24_l1 x1 i g0 g1 n a j) (N := 24) (I := fun _ _ => True) (fun n j a j0 j1 _ k2 => ?_) 24 0 0 zi_fu (by decide) (by decide) (by decide) (by decide) trivial) fun q _ => zh_ite (fun _ => zh_ret trivial) fun _ => kk () hi trivial
  show zh_ok (zf_Patches_hasAll_24_24_l1_b x1 i g0 g1 (zf_Patches_hasAll_24_24_l1 x1 i g0 g1 n) a j) _
  unfold zf_Patches_hasAll_24_24_l1_b
  refine zh_ite (fun hj => zh_ite (fun _ => ?_) fun _ => zh_ret trivial) fun _ => zh_ret trivial
  rw [zi_w_id (x := j + 1) (by omega) (by omega)]
  exact zh_cond (zi_ix_of j0 (by omega)) (zh_cond (zi_ix_of i0 (by omega)) (zh_ite (fun _ => k2 _ (by omega) trivial) fun _ => k2 _ (by omega) trivial))
theorem yw_has2412 {x1 x3 : Int} {g0 g1 : Int → Int} (a1 : x1 ≤ 24) (b0 : 0 ≤ x3) (b1 : x3 ≤ 12) : zh_ok (zf_Patches_hasAll_24_12 x1 x3 g0 g1) fun _ => True := by
  unfold zf_Patches_hasAll_24_12
  refine zh_sum (Q := fun _ => True) (zh_loop (F := fun n i (_ : Unit) => zf_Patches_hasAll_24_12_l0 x1 x3 g0 g1 n i) (N := x3) (I := fun _ _ => True) (fun n i a i0 i1 _ kk => ?_) 24 0 () zi_fu (by omega) (by decide) b0 (by decide) trivial) (fun _ _ => zh_ret trivial) fun _ _ => zh_ret trivial
  show zh_ok (zf_Patches_hasAll_24_12_l0_b x1 x3 g0 g1 (zf_Patches_hasAll_24_12_l0 x1 x3 g0 g1 n) i) _
  unfold zf_Patches_hasAll_24_12_l0_b
  refine zh_ite (fun hi => ?_) fun _ => zh_ret trivial
  rw [zi_w_id (x := i + 1) (by omega) (by omega)]
  refine zh_bind (Q := fun _ => True) (zh_loop (F := fun n j (a : Int) => zf_Patches_hasAll_24_12_l1 x1 i g0 g1 n a j) (N := 24) (I := fun _ _ => True) (fun n j a j0 j1 _ k2 => ?_) 24 0 0 zi_fu (by decide) (by decide) (by decide) (by decide) trivial) fun q _ => zh_ite (fun _ => zh_ret trivial) fun _ => kk () hi trivial
  show zh_ok (zf_Patches_hasAll_24_12_l1_b x1 i g0 g1 (zf_Patches_hasAll_24_12_l1 x1 i g0 g1 n) a j) _
  unfold zf_Patches_hasAll_24_12_l1_b
  refine zh_ite (fun hj => zh_ite (fun _ => ?_) fun _ => zh_ret trivial) fun _ => zh_ret trivial
  rw [zi_w_id (x := j + 1) (by omega) (by omega)]
  exact zh_cond (zi_ix_of j0 (by omega)) (zh_cond (zi_ix_of i0 (by omega)) (zh_ite (fun _ => k2 _ (by omega) trivial) fun _ => k2 _ (by omega) trivial))
theorem yw_has1224 {x1 x3 : Int} {g0 g1 : Int → Int} (a1 : x1 ≤ 12) (b0 : 0 ≤ x3) (b1 : x3 ≤ 24) : zh_ok (zf_Patches_hasAll_12_24 x1 x3 g0 g1) fun _ => True := by
  unfold zf_Patches_hasAll_12_24
  refine zh_sum (Q := fun _ => True) (zh_loop (F := fun n i (_ : Unit) => zf_Patches_hasAll_12_24_l0 x1 x3 g0 g1 n i) (N := x3) (I := fun _ _ => True) (fun n i a i0 i1 _ kk => ?_) 24 0 () zi_fu (by omega) (by decide) b0 (by decide) trivial) (fun _ _ => zh_ret trivial) fun _ _ => zh_ret trivial
  show zh_ok (zf_Patches_hasAll_12_24_l0_b x1 x3 g0 g1 (zf_Patches_hasAll_12_24_l0 x1 x3 g0 g1 n) i) _
  unfold zf_Patches_hasAll_12_24_l0_b
  refine zh_ite (fun hi => ?_) fun _ => zh_ret trivial
  rw [zi_w_id (x := i + 1) (by omega) (by omega)]
  refine zh_bind (Q := fun _ => True) (zh_loop (F := fun n j (a : Int) => zf_Patches_hasAll_12_24_l1 x1 i g0 g1 n a j) (N := 12) (I := fun _ _ => True) (fun n j a j0 j1 _ k2 => ?_) 24 0 0 zi_fu (by decide) (by decide) (by decide) (by decide) trivial) fun q _ => zh_ite (fun _ => zh_ret trivial) fun _ => kk () hi trivial
  show zh_ok (zf_Patches_hasAll_12_24_l1_b x1 i g0 g1 (zf_Patches_hasAll_12_24_l1 x1 i g0 g1 n) a j) _
  unfold zf_Patches_hasAll_12_24_l1_b
  refine zh_ite (fun hj => zh_ite (fun _ => ?_) fun _ => zh_ret trivial) fun _ => zh_ret trivial
  rw [zi_w_id (x := j + 1) (by omega) (by omega)]
  exact zh_cond (zi_ix_of j0 (by omega)) (zh_cond (zi_ix_of i0 (by omega)) (zh_ite (fun _ => k2 _ (by omega) trivial) fun _ => k2 _ (by omega) trivial))
theorem yw_same (k : yk_sky t h u cl sc sr ch co ro br wc wr m) {p q : Int} {g0 g1 g5 : Int → Int} (p1 : 0 ≤ p) (p2 : p < 288) (q1 : 0 ≤ q) (q2 : q < 288) : zh_ok (zf_Patches_isSame p q h g0 g1 co ro br g5) fun _ => True := by
  unfold zf_Patches_isSame
  exact zh_cond (zi_ix_of p1 (by omega)) (zh_bind (yw_fill k p1 p2) fun r2 h2 => zh_cond (zi_ix_of q1 (by omega)) (zh_bind (yw_fill k q1 q2) fun r4 h4 => zh_bind (yw_has2424 h2.2 h4.1 h4.2) fun r5 _ => zh_ite (fun _ => zh_ret trivial) fun _ => zh_bind (yw_has2424 h4.2 h2.1 h2.2) fun r7 _ => zh_ite (fun _ => zh_ret trivial) fun _ => zh_ret trivial))
theorem yw_alikeTo (k : yk_sky t h u cl sc sr ch co ro br wc wr m) {p q : Int} {g0 g1 g2 g6 : Int → Int} (p1 : 0 ≤ p) (p2 : p < 288) (q1 : 0 ≤ q) (q2 : q ≤ 288) : zh_ok (zf_Patches_alikeTo p q h g0 g1 g2 co ro br g6) fun _ => True := by
  unfold zf_Patches_alikeTo
  refine zh_cond (zi_ix_of p1 (by omega)) (zh_ite (fun _ => zh_ret trivial) fun _ => zh_sum (Q := fun _ => True) (zh_loop (F := fun n i (a : (Int → Int) × (Int → Int)) => zf_Patches_alikeTo_l0 p h g0 g1 co ro br n i a.1 a.2) (N := 288) (I := fun _ _ => True) (fun n i a i0 i1 _ kk => ?_) 288 q (g2, g6) zi_fu (by omega) q1 q2 (by decide) trivial) (fun _ _ => zh_ret trivial) fun _ _ => zh_ret trivial)
  show zh_ok (zf_Patches_alikeTo_l0_b p h g0 g1 co ro br (zf_Patches_alikeTo_l0 p h g0 g1 co ro br n) i a.1 a.2) _
  unfold zf_Patches_alikeTo_l0_b
  refine zh_ite (fun hi => ?_) fun _ => zh_ret trivial
  rw [zi_w_id (x := i + 1) (by omega) (by omega)]
  have k2 : ∀ x y, zh_ok (zf_Patches_alikeTo_l0 p h g0 g1 co ro br n (i + 1) x y) _ := fun x y => kk (x, y) hi trivial
  exact zh_ite (fun _ => k2 _ _) fun _ => zh_cond (zi_ix_of i0 (by omega)) (zh_cond (zi_ix_of p1 (by omega)) (zh_ite (fun _ => zh_bind (yw_same k p1 p2 i0 hi) fun r8 _ => zh_ite (fun _ => k2 _ _) fun _ => zh_ret trivial) fun _ => k2 _ _))
theorem yw_alikeX (R : yl_R L K V nc tS tL sP lP kd fr hf to mc C mk mf mh mt) (k : yk_sky t h u cl sc sr ch co ro br wc wr m) {w f3 f4 f5 f8 f14 f16 : Int} {g0 g1 g9 g11 g12 g13 g14 : Int → Int} :
    zh_ok (zf_X_alike w f3 f4 f5 h u f8 t sc sr cl tS f14 nc f16 sP g0 g1 co ro br kd hf to K g9 V g11 g12 g13 g14) fun _ => True := by
  unfold zf_X_alike
  rw [ze_X_isWithin, zl_b]
  refine zh_ite (fun _ => zh_ret trivial) fun q => ?_
  obtain ⟨g0', e0, h0⟩ := ze_open (f := f3) (g := g0)
  rw [e0, zl_b]
  dsimp only
  refine zh_bind (yw_every R k) fun r4 _ => zh_ite (fun _ => zh_bind (Q := fun _ => True) ?_ fun _ _ => zh_ret trivial) fun _ => zh_bind (Q := fun r => r.1 = -1 ∨ (0 ≤ r.1 ∧ r.1 < 288)) ?_ fun r6 h6 => zh_ite (fun _ => zh_ret trivial) fun hne => zh_ite (fun _ => zh_ret trivial) fun _ => ?_
  · unfold zf_Patches_countAlike
    refine zh_bind (Q := fun _ => True) (zh_loop (F := fun n i (a : Int × (Int → Int) × (Int → Int)) => zf_Patches_countAlike_l0 h r4.2.2.2.2.2.2.2.2.1 r4.2.2.2.2.2.2.2.2.2.1 co ro br n a.1 i a.2.1 a.2.2) (N := 288) (I := fun _ _ => True) (fun n i a i0 i1 _ kk => ?_) 288 0 (0, _, _) zi_fu (by decide) (by decide) (by decide) (by decide) trivial) fun _ _ => zh_ret trivial
    show zh_ok (zf_Patches_countAlike_l0_b h r4.2.2.2.2.2.2.2.2.1 r4.2.2.2.2.2.2.2.2.2.1 co ro br (zf_Patches_countAlike_l0 h r4.2.2.2.2.2.2.2.2.1 r4.2.2.2.2.2.2.2.2.2.1 co ro br n) a.1 i a.2.1 a.2.2) _
    unfold zf_Patches_countAlike_l0_b
    refine zh_ite (fun hi => ?_) fun _ => zh_ret trivial
    rw [zi_w_id (x := i + 1) (by omega) (by omega)]
    have k2 : ∀ b1 b2 b3, zh_ok (zf_Patches_countAlike_l0 h r4.2.2.2.2.2.2.2.2.1 r4.2.2.2.2.2.2.2.2.2.1 co ro br n b1 (i + 1) b2 b3) _ := fun b1 b2 b3 => kk (b1, b2, b3) hi trivial
    exact zh_bind (yw_alikeTo k i0 hi (by decide) (by decide)) fun r _ => zh_ite (fun _ => k2 _ _ _) fun _ => k2 _ _ _
  · unfold zf_Patches_firstAlike
    refine zh_sum (Q := fun q => match q with
      | .inl _ => True
      | .inr b => 0 ≤ b.1 ∧ b.1 < 288) (zh_loop (F := fun n i (a : (Int → Int) × (Int → Int)) => zf_Patches_firstAlike_l0 h r4.2.2.2.2.2.2.2.2.1 r4.2.2.2.2.2.2.2.2.2.1 co ro br n i a.1 a.2) (N := 288) (I := fun _ _ => True) (fun n i a i0 i1 _ kk => ?_) 288 0 (_, _) zi_fu (by decide) (by decide) (by decide) (by decide) trivial) (fun _ _ => zh_ret (.inl rfl)) fun b hb => zh_ret (.inr hb)
    show zh_ok (zf_Patches_firstAlike_l0_b h r4.2.2.2.2.2.2.2.2.1 r4.2.2.2.2.2.2.2.2.2.1 co ro br (zf_Patches_firstAlike_l0 h r4.2.2.2.2.2.2.2.2.1 r4.2.2.2.2.2.2.2.2.2.1 co ro br n) i a.1 a.2) _
    unfold zf_Patches_firstAlike_l0_b
    refine zh_ite (fun hi => ?_) fun _ => zh_ret trivial
    rw [zi_w_id (x := i + 1) (by omega) (by omega)]
    exact zh_bind (yw_alikeTo k i0 hi (by decide) (by decide)) fun r _ => zh_ite (fun _ => kk (_, _) hi trivial) fun _ => zh_ret ⟨i0, hi⟩
  · have h6 := h6.resolve_left hne
    rw [zi_w_id (x := r6.1 + 1) (by omega) (by omega)]
    exact zh_bind (yw_alikeTo k h6.1 h6.2 (by omega) (by omega)) fun r _ => zh_ret trivial
theorem yw_known1 (k : yk_sky t h u cl sc sr ch co ro br wc wr m) {w s x y n : Int} {g0 g4 : Int → Int} (x1 : 0 ≤ x) (x2 : x < 24) (y1 : 0 ≤ y) (y2 : y < 12) (n0 : 0 ≤ n) (n1 : n ≤ 12) : zh_ok (zf_Patches_isKnown w s x y h n g0 co ro br g4) fun _ => True := by
  unfold zf_Patches_isKnown
  rw [ze_X_placeOf x1 x2 y1 y2, zl_b]
  exact zh_bind (yw_fill k (by omega) (by omega)) fun r2 h2 => zh_bind (yw_has2412 h2.2 n0 n1) fun r3 _ => zh_ite (fun _ => zh_ret trivial) fun _ => zh_ite (fun _ => zh_ret trivial) fun _ => zh_bind (yw_has1224 n1 h2.1 h2.2) fun r6 _ => zh_ite (fun _ => zh_ret trivial) fun _ => zh_ret trivial
theorem yw_knownX (R : yl_R L K V nc tS tL sP lP kd fr hf to mc C mk mf mh mt) (k : yk_sky t h u cl sc sr ch co ro br wc wr m) {a w n f4 f5 f6 f7 f10 f16 f18 : Int} {g0 g1 g3 g11 g13 : Int → Int} (n0 : 0 ≤ n) (n1 : n ≤ 220) :
    zh_ok (zf_X_known a w n f4 f5 f6 f7 h u f10 t sc sr cl tS f16 nc f18 sP g0 g1 T g3 co ro br kd hf to K g11 V g13) fun o => o.2.1 = if zs_in a 1 12 = 0 then n else if zs_in w 0 3 = 0 then n else if n < 3 * a then n else 0 := by
  unfold zf_X_known
  rw [ze_X_isWithin, zl_b]
  refine zh_ite (fun q => zh_ret (by rw [if_pos q])) fun q => ?_
  rw [if_neg q, ze_X_isWithin, zl_b]
  obtain ⟨a1, a2⟩ := zs_in_ne q
  refine zh_ite (fun q2 => zh_ret (by rw [if_pos q2])) fun q2 => ?_
  rw [if_neg q2, zi_w_id (x := 3 * a) (by omega) (by omega)]
  unfold zf_Tape_take
  by_cases c : n < 3 * a
  · rw [if_pos c, zl_b, if_pos rfl, if_pos c]
    exact zh_ret rfl
  rw [if_neg c, zl_b, if_neg (show ¬ (1 : Int) = 0 by decide), if_neg c]
  obtain ⟨g0', e0, h0⟩ := ze_open (f := f4) (g := g0)
  rw [e0, zl_b]
  dsimp only
  refine zh_bind (Q := fun r => 0 ≤ r.1 ∧ r.1 ≤ 12) ?_ fun r8 h8 => zh_sum (Q := fun q => match q with
    | .inl _ => True
    | .inr b => b.2.1 = 0) (zh_loop (F := fun n i (a : Int × Int × Int × Int × Int × Int × Int × (Int → Int) × (Int → Int) × (Int → Int)) => zf_X_known_l0 w 0 r8.1 h u t sc sr cl tS nc sP g0' r8.2 co ro br kd hf to K V n a.1 i a.2.1 a.2.2.1 a.2.2.2.1 a.2.2.2.2.1 a.2.2.2.2.2.1 a.2.2.2.2.2.2.1 a.2.2.2.2.2.2.2.1 a.2.2.2.2.2.2.2.2.1 a.2.2.2.2.2.2.2.2.2) (N := 288)
      (I := fun _ a => yv_ca L sP h u co ro br a.2.1 a.2.2.2.2.2.1) (fun n i a i0 i1 ha kk => ?_) 288 0 (0, 0, f6, f7, f10, f16, f18, g3, g11, g13) zi_fu (by decide) (by decide) (by decide) (by decide) yv_ca0) (fun a _ => zh_ite (fun _ => zh_ret rfl) fun _ => zh_ret rfl) fun b hb => zh_ret hb
  · unfold zf_Patches_takeParts
    rw [ze_Math_min, zl_b]
    have hm : (if 12 < a then (12 : Int) else a) = a := if_neg (by omega)
    rw [hm]
    refine zh_bind (Q := fun _ => True) (zh_loop (F := fun n i (g : Int → Int) => zf_Patches_takeParts_l0 a T n i g) (N := a) (I := fun _ _ => True) (fun n i g i0 i1 _ kk => ?_) 12 0 g1 zi_fu (by omega) (by decide) (by omega) (by decide) trivial) fun _ _ => zh_ret ⟨by show 0 ≤ a; omega, by show a ≤ 12; omega⟩
    show zh_ok (zf_Patches_takeParts_l0_b a T (zf_Patches_takeParts_l0 a T n) i g) _
    unfold zf_Patches_takeParts_l0_b
    refine zh_ite (fun hi => ?_) fun _ => zh_ret trivial
    rw [zi_w_id (x := 3 * i) (by omega) (by omega), zi_w_id (x := 3 * i + 1) (by omega) (by omega), zi_w_id (x := 3 * i + 2) (by omega) (by omega), zi_w_id (x := i + 1) (by omega) (by omega), ze_byteAt (by omega) (by omega), zl_b, ze_byteAt (by omega) (by omega), zl_b, ze_byteAt (by omega) (by omega), zl_b]
    exact zh_bind (Q := fun _ => True) (zh_ret trivial) fun _ _ => zh_cond (zi_ix_of i0 (by omega)) (kk _ hi trivial)
  · obtain ⟨a1', a2', a3, a4, a5, a6, a7, a8, a9, a10⟩ := a
    have ha : yv_ca L sP h u co ro br a2' a6 := ha
    show zh_ok (zf_X_known_l0_b w 0 r8.1 h u t sc sr cl tS nc sP g0' r8.2 co ro br kd hf to K V (zf_X_known_l0 w 0 r8.1 h u t sc sr cl tS nc sP g0' r8.2 co ro br kd hf to K V n) a1' i a2' a3 a4 a5 a6 a7 a8 a9 a10) _
    unfold zf_X_known_l0_b
    refine zh_ite (fun hi => ?_) fun _ => zh_ret trivial
    obtain ⟨s', as', ho', a', g', S', e1, -, c1⟩ := yx_look (f2 := a3) (f3 := a4) (f6 := a5) (f := a7) (g := a8) (S := a9) (x := i % 24) (y := i / 24) R k (by omega) (by omega) (by omega) (by omega) ha
    rw [ze_X_columnOf i0 hi, zl_b, ze_X_rowOf i0 hi, zl_b]
    rw [e1, zl_b, zi_w_id (x := i + 1) (by omega) (by omega)]
    dsimp only
    have k2 : ∀ b1 b2 b3 b4 b5 b6 b7 b8 b9 b10, yv_ca L sP h u co ro br b2 b6 → zh_ok (zf_X_known_l0 w 0 r8.1 h u t sc sr cl tS nc sP g0' r8.2 co ro br kd hf to K V n b1 (i + 1) b2 b3 b4 b5 b6 b7 b8 b9 b10) _ := fun b1 b2 b3 b4 b5 b6 b7 b8 b9 b10 q => kk (b1, b2, b3, b4, b5, b6, b7, b8, b9, b10) hi q
    exact zh_ite (fun _ => zh_bind (yw_known1 k (by omega) (by omega) (by omega) (by omega) h8.1 h8.2) fun r14 _ => zh_ite (fun _ => k2 _ _ _ _ _ _ _ _ _ _ c1) fun _ => zh_ite (fun _ => zh_ret rfl) fun _ => k2 _ _ _ _ _ _ _ _ _ _ c1)
      fun _ => zh_bind (yw_known1 k (by omega) (by omega) (by omega) (by omega) h8.1 h8.2) fun r14 _ => zh_ite (fun _ => k2 _ _ _ _ _ _ _ _ _ _ c1) fun _ => zh_ite (fun _ => zh_ret rfl) fun _ => k2 _ _ _ _ _ _ _ _ _ _ c1
end YWP
