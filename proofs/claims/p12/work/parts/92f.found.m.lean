/-! 92f.found, 92g.patches, 92h.mpatch, 92i.sold, 92j.sold2, 92k.sold3, 92l.named, 92m.steers, 92n.fastest, 92o.bytwo -/
section
/-! found, meeting: alike on both sides; alike, known: both sides answer. -/
section YFM
variable {t h u cl sc sr ch ts : Int} {co ro br wc wr m gp gl : Int → Int} {T M : Int → Int}
theorem ze_colNext {i : Int} (i0 : 0 ≤ i) (i1 : i < 24) (c0 : 0 ≤ co i) (c1 : co i ≤ 23) (w0 : -3 ≤ wc i) (w1 : wc i ≤ 3) : zf_Sky_columnNextNight i co wc = some ((co i + wc i) % 24) := by
  unfold zf_Sky_columnNextNight
  rw [zl_ci i0 (by omega)]
  first
    | rw [zi_w_id (x := co i + wc i) (by omega) (by omega), ze_floorMod (by omega) (by omega)]; rfl
    | rw [zl_ci i0 (by omega), zi_w_id (x := co i + wc i) (by omega) (by omega), ze_floorMod (by omega) (by omega)]; rfl
theorem ze_rowNext {i : Int} (i0 : 0 ≤ i) (i1 : i < 24) (c0 : 0 ≤ ro i) (c1 : ro i ≤ 11) (w0 : -3 ≤ wr i) (w1 : wr i ≤ 3) : zf_Sky_rowNextNight i ro wr = some (yg_cl (ro i + wr i)) := by
  unfold zf_Sky_rowNextNight yg_cl
  first
    | rw [zl_ci i0 (by omega), zi_w_id (x := ro i + wr i) (by omega) (by omega), ze_Math_min, zl_b, ze_Math_max, zl_b]
    | rw [zl_ci i0 (by omega), zl_ci i0 (by omega), zi_w_id (x := ro i + wr i) (by omega) (by omega), ze_Math_min, zl_b, ze_Math_max, zl_b]
  congr 1
  (repeat' split) <;> omega
theorem yo_found_l (k : yk_sky t h u cl sc sr ch co ro br wc wr m) (hT : yk_T T M) {m2 co2 ro2 : Int → Int} (k2 : yk_sky t h u cl sc sr ch co2 ro2 br wc wr m2) (e : ∀ i, 0 ≤ i → i < 24 → co2 i = (co i + wc i) % 24 ∧ ro2 i = yg_cl (ro i + wr i)) : ∀ (d : Nat) (i s a : Int) (n n2 : Nat), i + d = 24 → 0 ≤ i → d < n → d < n2 → 0 ≤ a → a ≤ 2 * i →
    ∃ r, zf_X_found_l0 t T co wc ro wr n s a i = some r ∧ zf_M_found_l0 m2 M n2 s a i = some r := by
  obtain ⟨⟨ht, k126⟩, -, -, -, -, -, -, ki⟩ := id k
  obtain ⟨⟨-, j126⟩, -, -, -, -, -, -, kj⟩ := id k2
  have tin : 0 ≤ t ∧ t ≤ 2147483647 := ⟨ht.1, by have := ht.2; omega⟩
  intro d
  induction d with
  | zero =>
    intro i s a n n2 e0 i0 hn hn2 a0 a1
    obtain ⟨n, rfl⟩ : ∃ q, n = q + 1 := ⟨n - 1, by omega⟩
    obtain ⟨n2, rfl⟩ : ∃ q, n2 = q + 1 := ⟨n2 - 1, by omega⟩
    refine ⟨s, ?_, ?_⟩
    · show zf_X_found_l0_b t T co wc ro wr (zf_X_found_l0 t T co wc ro wr n) s a i = _
      unfold zf_X_found_l0_b
      rw [if_neg (by omega)]
    · show zf_M_found_l0_b m2 M (zf_M_found_l0 m2 M n2) s a i = _
      unfold zf_M_found_l0_b
      rw [if_neg (by omega)]
  | succ d ih =>
    intro i s a n n2 e0 i0 hn hn2 a0 a1
    obtain ⟨n, rfl⟩ : ∃ q, n = q + 1 := ⟨n - 1, by omega⟩
    obtain ⟨n2, rfl⟩ : ∃ q, n2 = q + 1 := ⟨n2 - 1, by omega⟩
    have nx := fun s2 a2 (b0 : 0 ≤ a2) (b1 : a2 ≤ 2 * (i + 1)) => ih (i + 1) s2 a2 n n2 (by omega) (by omega) (by omega) (by omega) b0 b1
    show ∃ r, zf_X_found_l0_b t T co wc ro wr (zf_X_found_l0 t T co wc ro wr n) s a i = some r ∧ zf_M_found_l0_b m2 M (zf_M_found_l0 m2 M n2) s a i = some r
    unfold zf_X_found_l0_b zf_M_found_l0_b
    rw [if_pos (by omega), if_pos (by omega), ze_Sky_hasStar tin.1 tin.2, ze_M_isTold (by rw [j126]; exact tin.1) (by rw [j126]; exact tin.2), j126, zl_b, zl_b, zi_w_id (x := i + 1) (by omega) (by omega)]
    by_cases q : zs_has 24 t i = 0
    · rw [if_pos q, if_pos q]
      exact nx s a a0 (by omega)
    rw [if_neg q, if_neg q]
    have hti : zb t i.toNat = true := by
      by_cases hh : zb t i.toNat = true
      · exact hh
      · exact absurd (zs_has0 tin.1 tin.2 hh) q
    obtain ⟨⟨⟨c1, c2⟩, ⟨r1, r2⟩, -, ⟨w1, w2⟩, ⟨v1, v2⟩⟩, -, -⟩ := ki i i0 (by omega)
    obtain ⟨-, -, h3⟩ := kj i i0 (by omega)
    obtain ⟨h3, h4, -⟩ := h3 hti
    obtain ⟨e1, e2⟩ := e i i0 (by omega)
    obtain ⟨T1, -, -⟩ := hT a a0 (by omega)
    obtain ⟨T2, -, -⟩ := hT (a + 1) (by omega) (by omega)
    rw [ze_byteAt a0 (by omega), zl_b, ze_colNext i0 (by omega) c1 c2 w1 w2, zl_b, ze_rowNext i0 (by omega) r1 r2 v1 v2, zi_w_id (x := a + 1) (by omega) (by omega), zi_w_id (x := a + 2) (by omega) (by omega), ze_byteAt (j := a + 1) (by omega) (by omega), zl_b, zl_b, zi_w_id (x := 0 + i) (by omega) (by omega), zi_w_id (x := 24 + i) (by omega) (by omega), Int.zero_add, zl_ci a0 (by omega), zl_ci i0 (by omega), zl_ci (a := a + 1) (by omega) (by omega), zl_ci (a := 24 + i) (by omega) (by omega), T1, T2, h3, h4, e1, e2]
    by_cases x1 : T a = (co i + wc i) % 24
    · rw [if_pos x1, if_pos x1]
      by_cases x2 : T (a + 1) = yg_cl (ro i + wr i)
      · rw [if_pos x2, if_pos x2]
        exact nx s (a + 2) (by omega) (by omega)
      · rw [if_neg x2, if_neg x2]
        exact nx _ (a + 2) (by omega) (by omega)
    · rw [if_neg x1, if_neg x1]
      exact nx _ (a + 2) (by omega) (by omega)
theorem zs_sum_24 {t : Int} (ht : z24 t) : 0 ≤ zs_sum t 24 ∧ zs_sum t 24 ≤ 24 := by
  rw [yn_sum ht.1 (by have := ht.2; omega)]
  exact yn_in 24
theorem yo_found {n n2 : Int} {mA : Int → Int} (k : yk_sky t h u cl sc sr ch co ro br wc wr m) (p : yk_tape n n2 T M) : ∃ r n' n2' m' mA', zf_X_found t n T co wc ro wr = some (r, n') ∧ zf_M_found n2 m mA M = some (r, n2', m', mA') ∧ yk_tape n' n2' T M ∧ ∀ j, 0 ≤ j → j < 422 → m' j = m j := by
  obtain ⟨⟨ht, k126⟩, -⟩ := id k
  obtain ⟨rfl, n0, n1, hT⟩ := id p
  have hs := zs_sum_24 ht
  unfold zf_X_found zf_M_found
  rw [k126]
  by_cases q : t = 0
  · rw [if_pos q, if_pos q]
    exact ⟨_, _, _, _, _, rfl, rfl, p, fun _ _ _ => rfl⟩
  rw [if_neg q, if_neg q, ze_bitCount ht.1 (by have := ht.2; omega), ze_M_bits ht.1 (by have := ht.2; omega), zl_b, zl_b, zi_w_id (x := 2 * zs_sum t 24) (by omega) (by omega)]
  unfold zf_Tape_take
  by_cases c : n2 < 2 * zs_sum t 24
  · rw [if_pos c, zl_b, if_pos rfl, if_pos c]
    exact ⟨_, _, _, _, _, rfl, rfl, p, fun _ _ _ => rfl⟩
  rw [if_neg c, zl_b, if_neg (show ¬ (1 : Int) = 0 by decide), if_neg c]
  obtain ⟨mB, e4, hA⟩ := ze_begins (g0 := m) (g := mA)
  obtain ⟨co2, ro2, m2, -, e5, hm2, k2, e⟩ := yk_walks k
  obtain ⟨r, e6, e7⟩ := yo_found_l k hT k2 e 24 0 0 0 zi_fu zi_fu (by decide) (by decide) (by decide) (by decide) (by decide) (by decide)
  obtain ⟨mC, e8, hB⟩ := ze_again (g0 := mB) (g := m2)
  rw [e4, zl_b, e5, zl_b, e6, zl_b, e7, zl_b, e8, zl_b]
  exact ⟨_, _, _, _, _, rfl, rfl, ⟨rfl, by decide, by decide, hT⟩, fun j j0 j1 => by rw [hB j j0 j1, hA j j0 j1]⟩
theorem yo_meeting {a b w : Int} {h1 q1 h3 fA q2 fB : Int → Int} (z : yk_sea ts gp gl m) : ∃ r h1' q1' h3' fA' q2' fB', zf_X_meeting a b w ts gp h1 q1 gl h3 = some (r, h1', q1', h3') ∧ zf_M_meeting a b w m fA q2 fB = some (r, fA', q2', fB') := by
  obtain ⟨⟨t1, t2, e127, hs, -⟩, hb⟩ := id z
  unfold zf_X_meeting zf_M_meeting
  rw [ze_Sea_hasShip t1 (by omega), ze_M_isShip (by omega) (by omega), e127, zl_b, zl_b]
  by_cases x1 : zs_has 6 ts a = 0
  · rw [if_pos x1, if_pos x1]
    exact ⟨_, _, _, _, _, _, _, rfl, rfl⟩
  rw [if_neg x1, if_neg x1, ze_Sea_hasShip t1 (by omega), ze_M_isShip (by omega) (by omega), e127, zl_b, zl_b]
  by_cases x2 : zs_has 6 ts b = 0
  · rw [if_pos x2, if_pos x2]
    exact ⟨_, _, _, _, _, _, _, rfl, rfl⟩
  rw [if_neg x2, if_neg x2, ze_X_isWithin, ze_M_in, zl_b, zl_b]
  by_cases x3 : zs_in w 0 1 = 0
  · rw [if_pos x3, if_pos x3]
    exact ⟨_, _, _, _, _, _, _, rfl, rfl⟩
  rw [if_neg x3, if_neg x3]
  obtain ⟨w0, w1⟩ := zs_in_ne x3
  obtain ⟨a0, a1, -⟩ := zs_has_ne x1
  obtain ⟨b0, b1, -⟩ := zs_has_ne x2
  obtain ⟨p0, p1⟩ := hb a a0 a1
  obtain ⟨r0, r1⟩ := hb b b0 b1
  rw [zl_ci a0 (by omega), zl_ci b0 (by omega), zi_w_id (x := 120 + a) (by omega) (by omega), zi_w_id (x := 120 + b) (by omega) (by omega), zl_ci (a := 120 + a) (by omega) (by omega), hs a a0 a1]
  obtain ⟨t3, D, Q, E, P, e1, e2, d1⟩ := ym_spread z p0 p1 (g0 := h1) (g1 := q1) (h0 := fA) (h1 := q2)
  obtain ⟨t4, F, Q2, G, P2, e3, e4, d2⟩ := ym_spread z r0 r1 (g0 := h3) (g1 := Q) (h0 := fB) (h1 := P)
  have R1 := ym_R_of d1
  have R2 := ym_R_of d2
  obtain ⟨p', c', e5, e6, hh⟩ := ym_meet_l R1 R2 288 0 (-1) 0 zi_fu (by decide) (by decide) (by decide) (.inl ⟨rfl, rfl, fun i i0 i1 => by omega⟩)
  have eX : zf_Pilot_meetingPlace (gp a) (gp b) h1 q1 gl h3 = some (p', D, Q2, F) := by
    unfold zf_Pilot_meetingPlace
    rw [e1, zl_b, e3, zl_b, e5, zl_b]
  rw [eX, zl_b, e2, zl_b, zl_ci (a := 120 + b) (by omega) (by omega), hs b b0 b1, e4, zl_b, e6, zl_b]
  dsimp only
  rcases hh with ⟨rfl, rfl, hd⟩ | ⟨rfl, v0, v1, v2, v3⟩
  · rw [if_pos rfl, zl_ci (a := 0) (by decide) (by decide), ze_mm, zl_b]
    have : (if G 0 < E 0 then E 0 else G 0) = 1000000000 := by
      have s1 := R1 0 (by decide) (by decide)
      have s2 := R2 0 (by decide) (by decide)
      split <;> omega
    rw [this, if_neg (by decide)]
    exact ⟨_, _, _, _, _, _, _, rfl, rfl⟩
  · rw [if_neg (show ¬ p' = -1 by omega), zl_ci v0 (by omega), ze_mm, zl_b, ze_hoursTo v0 v1, zl_b]
    have s1 := R1 p' v0 v1
    have s2 := R2 p' v0 v1
    have : (if G p' < E p' then E p' else G p') = (if D p' < F p' then F p' else D p') ∧ (if D p' < F p' then F p' else D p') < 1000000000 := by
      constructor
      · split <;> split <;> omega
      · split <;> omega
    rw [this.1, if_pos this.2]
    by_cases x : w = 0
    · rw [if_pos x, if_neg (by omega)]
      exact ⟨_, _, _, _, _, _, _, rfl, rfl⟩
    · rw [if_neg x, if_pos (by omega)]
      exact ⟨_, _, _, _, _, _, _, rfl, rfl⟩
end YFM
end
section
/-! alike, known: both sides answer. -/
section YWP
variable {L : zLW} {K V kd fr hf to C mk mf mh mt : Int → Int} {nc tS tL sP lP mc : Int} {t h u cl sc sr ch : Int} {co ro br wc wr m : Int → Int} {T M : Int → Int}
theorem yw_fill {p s : Int} {g0 : Int → Int} (k : yk_sky t h u cl sc sr ch co ro br wc wr m) (p1 : 0 ≤ p) (p2 : p < 288) : zh_ok (zf_Patches_fillParts_24 s p h g0 co ro br) fun o => 0 ≤ o.1 ∧ o.1 ≤ 24 := by
  obtain ⟨-, ⟨⟨h1, h2⟩, -⟩, -, -, -, -, -, ki⟩ := id k
  refine zh_bind (Q := fun q => 0 ≤ q.1 ∧ q.1 ≤ 24) (zh_loop (F := fun n i (a : Int × (Int → Int)) => zf_Patches_fillParts_24_l0 s p h co ro br n a.1 i a.2) (N := 24) (I := fun _ a => 0 ≤ a.1 ∧ a.1 ≤ 24) (fun n i a i0 i1 ha kk => ?_) 24 0 (0, g0) zi_fu (by decide) (by decide) (by decide) (by decide) ⟨Int.le_refl 0, (by decide : (0 : Int) ≤ 24)⟩) fun q hq => zh_ret hq
  obtain ⟨a1, a2⟩ := a
  obtain ⟨b1, b2⟩ := ha
  have b1 : 0 ≤ a1 := b1
  have b2 : a1 ≤ 24 := b2
  show zh_ok (zf_Patches_fillParts_24_l0_b s p h co ro br (zf_Patches_fillParts_24_l0 s p h co ro br n) a1 i a2) _
  unfold zf_Patches_fillParts_24_l0_b
  refine zh_ite (fun hi => ?_) fun _ => zh_ret ⟨b1, b2⟩
  obtain ⟨⟨⟨c1, c2⟩, -⟩, -⟩ := ki i i0 hi
  have hst := yv_st_in (h := h) (co := co) (i := i)
  have k2 : ∀ x y, 0 ≤ x → x ≤ 24 → zh_ok (zf_Patches_fillParts_24_l0 s p h co ro br n x (i + 1) y) _ := fun x y x1 x2 => kk (x, y) hi ⟨x1, x2⟩
  rw [zi_w_id (x := i + 1) (by omega) (by omega), ze_Sky_standing i0 hi c1 c2 h1 h2, zl_b, show (co i + h) % 24 = yv_st h co i from rfl, ze_X_columnOf p1 p2, zl_b, ze_X_rowOf p1 p2, zi_w_id (x := yv_st h co i - p % 24) (by omega) (by omega), ze_floorMod (by omega) (by omega), zl_b, zl_b, zl_b]
  refine zh_ite (fun _ => k2 _ _ b1 b2) fun _ => zh_ite (fun hlt => ?_) fun _ => k2 _ _ b1 b2
  rw [zi_w_id (x := a1 + 1) (by omega) (by omega)]
  exact zh_ite (fun _ => zh_cond (zi_ix_of i0 (by omega)) (zh_bind (Q := fun _ => True) (zh_ret trivial) fun _ _ => zh_cond (zi_ix_of b1 (by omega)) (k2 _ _ (by omega) (by omega)))) fun _ => zh_cond (zi_ix_of i0 (by omega)) (zh_bind (Q := fun _ => True) (zh_ret trivial) fun _ _ => zh_cond (zi_ix_of b1 (by omega)) (k2 _ _ (by omega) (by omega)))
theorem yw_marks {p s : Int} {g12 g11 : Int → Int} (p1 : 0 ≤ p) (p2 : p < 288) (s1 : 0 ≤ s) (s2 : s ≤ 24) : zh_ok (zf_Patches_lookEverywhere_al_l1 p s g12 zi_fu 0 g11) fun _ => True := by
  refine zh_loop (F := fun n i (a : Int → Int) => zf_Patches_lookEverywhere_al_l1 p s g12 n i a) (N := s) (I := fun _ _ => True) (fun n i a i0 i1 _ kk => ?_) 24 0 g11 zi_fu (by omega) (by decide) s1 (by decide) trivial
  show zh_ok (zf_Patches_lookEverywhere_al_l1_b p s g12 (zf_Patches_lookEverywhere_al_l1 p s g12 n) i a) _
  unfold zf_Patches_lookEverywhere_al_l1_b
  refine zh_ite (fun hi => ?_) fun _ => zh_ret trivial
  rw [zi_w_id (x := i + 1) (by omega) (by omega)]
  exact zh_cond (zi_ix_of p1 (by omega)) (zh_cond (zi_ix_of i0 (by omega)) (kk _ hi trivial))
theorem yw_every (R : yl_R L K V nc tS tL sP lP kd fr hf to mc C mk mf mh mt) (k : yk_sky t h u cl sc sr ch co ro br wc wr m) {f2 f3 f6 f13 f15 : Int} {g0 g8 g10 g11 g12 : Int → Int} :
    zh_ok (zf_Patches_lookEverywhere_al f2 f3 h u f6 t sc sr cl tS 0 f13 nc f15 sP g0 co ro br kd hf to K g8 V g10 g11 g12) fun _ => True := by
  unfold zf_Patches_lookEverywhere_al
  refine zh_bind (Q := fun _ => True) (zh_loop (F := fun n i (a : Int × Int × Int × Int × Int × Int × (Int → Int) × (Int → Int) × (Int → Int) × (Int → Int) × (Int → Int)) => zf_Patches_lookEverywhere_al_l0 h u t sc sr cl tS nc sP co ro br kd hf to K V n i a.1 a.2.1 a.2.2.1 a.2.2.2.1 a.2.2.2.2.1 a.2.2.2.2.2.1 a.2.2.2.2.2.2.1 a.2.2.2.2.2.2.2.1 a.2.2.2.2.2.2.2.2.1 a.2.2.2.2.2.2.2.2.2.1 a.2.2.2.2.2.2.2.2.2.2) (N := 288)
    (I := fun _ a => yv_ca L sP h u co ro br a.2.2.2.1 a.2.2.2.2.1) (fun n i a i0 i1 ha kk => ?_) 288 0 (f2, f3, f6, 0, f13, f15, g0, g8, g10, g11, g12) zi_fu (by decide) (by decide) (by decide) (by decide) yv_ca0) fun q _ => zh_ret trivial
  obtain ⟨a1, a2, a3, a4, a5, a6, a7, a8, a9, a10, a11⟩ := a
  have ha : yv_ca L sP h u co ro br a4 a5 := ha
  show zh_ok (zf_Patches_lookEverywhere_al_l0_b h u t sc sr cl tS nc sP co ro br kd hf to K V (zf_Patches_lookEverywhere_al_l0 h u t sc sr cl tS nc sP co ro br kd hf to K V n) i a1 a2 a3 a4 a5 a6 a7 a8 a9 a10 a11) _
  unfold zf_Patches_lookEverywhere_al_l0_b
  refine zh_ite (fun hi => ?_) fun _ => zh_ret trivial
  obtain ⟨s', as', ho', a', g', S', e1, -, c1⟩ := yx_look (f2 := a1) (f3 := a2) (f6 := a3) (f := a6) (g := a7) (S := a8) (x := i % 24) (y := i / 24) R k (by omega) (by omega) (by omega) (by omega) ha
  rw [ze_X_columnOf i0 hi, zl_b, ze_X_rowOf i0 hi, zl_b, e1, zl_b, zi_w_id (x := i + 1) (by omega) (by omega)]
  dsimp only
  have k2 : ∀ b1 b2 b3 b4 b5 b6 b7 b8 b9 b10 b11, yv_ca L sP h u co ro br b4 b5 → zh_ok (zf_Patches_lookEverywhere_al_l0 h u t sc sr cl tS nc sP co ro br kd hf to K V n (i + 1) b1 b2 b3 b4 b5 b6 b7 b8 b9 b10 b11) _ := fun b1 b2 b3 b4 b5 b6 b7 b8 b9 b10 b11 q => kk (b1, b2, b3, b4, b5, b6, b7, b8, b9, b10, b11) hi q
  exact zh_cond (zi_ix_of i0 (by omega)) (zh_bind (yw_fill k i0 hi) fun r6 h6 => zh_bind (yw_marks i0 hi h6.1 h6.2) fun q _ => k2 _ _ _ _ _ _ _ _ _ _ _ c1)
theorem yw_has2424 {x1 x3 : Int} {g0 g1 : Int → Int} (a1 : x1 ≤ 24) (b0 : 0 ≤ x3) (b1 : x3 ≤ 24) : zh_ok (zf_Patches_hasAll_24_24 x1 x3 g0 g1) fun _ => True := by
  unfold zf_Patches_hasAll_24_24
  refine zh_sum (Q := fun _ => True) (zh_loop (F := fun n i (_ : Unit) => zf_Patches_hasAll_24_24_l0 x1 x3 g0 g1 n i) (N := x3) (I := fun _ _ => True) (fun n i a i0 i1 _ kk => ?_) 24 0 () zi_fu (by omega) (by decide) b0 (by decide) trivial) (fun _ _ => zh_ret trivial) fun _ _ => zh_ret trivial
  show zh_ok (zf_Patches_hasAll_24_24_l0_b x1 x3 g0 g1 (zf_Patches_hasAll_24_24_l0 x1 x3 g0 g1 n) i) _
  unfold zf_Patches_hasAll_24_24_l0_b
  refine zh_ite (fun hi => ?_) fun _ => zh_ret trivial
  rw [zi_w_id (x := i + 1) (by omega) (by omega)]
  refine zh_bind (Q := fun _ => True) (zh_loop (F := fun n j (a : Int) => zf_Patches_hasAll_24_24_l1 x1 i g0 g1 n a j) (N := 24) (I := fun _ _ => True) (fun n j a j0 j1 _ k2 => ?_) 24 0 0 zi_fu (by decide) (by decide) (by decide) (by decide) trivial) fun q _ => zh_ite (fun _ => zh_ret trivial) fun _ => kk () hi trivial
  show zh_ok (zf_Patches_hasAll_24_24_l1_b x1 i g0 g1 (zf_Patches_hasAll_24_24_l1 x1 i g0 g1 n) a j) _
  unfold zf_Patches_hasAll_24_24_l1_b
  refine zh_ite (fun hj => zh_ite (fun _ => ?_) fun _ => zh_ret trivial) fun _ => zh_ret trivial
  rw [zi_w_id (x := j + 1) (by omega) (by omega)]
  exact zh_cond (zi_ix_of j0 (by omega)) (zh_cond (zi_ix_of i0 (by omega)) (zh_ite (fun _ => k2 _ (by omega) trivial) fun _ => k2 _ (by omega) trivial))
theorem yw_has2412 {x1 x3 : Int} {g0 g1 : Int → Int} (a1 : x1 ≤ 24) (b0 : 0 ≤ x3) (b1 : x3 ≤ 12) : zh_ok (zf_Patches_hasAll_24_12 x1 x3 g0 g1) fun _ => True := by
  unfold zf_Patches_hasAll_24_12
  refine zh_sum (Q := fun _ => True) (zh_loop (F := fun n i (_ : Unit) => zf_Patches_hasAll_24_12_l0 x1 x3 g0 g1 n i) (N := x3) (I := fun _ _ => True) (fun n i a i0 i1 _ kk => ?_) 24 0 () zi_fu (by omega) (by decide) b0 (by decide) trivial) (fun _ _ => zh_ret trivial) fun _ _ => zh_ret trivial
  show zh_ok (zf_Patches_hasAll_24_12_l0_b x1 x3 g0 g1 (zf_Patches_hasAll_24_12_l0 x1 x3 g0 g1 n) i) _
  unfold zf_Patches_hasAll_24_12_l0_b
  refine zh_ite (fun hi => ?_) fun _ => zh_ret trivial
  rw [zi_w_id (x := i + 1) (by omega) (by omega)]
  refine zh_bind (Q := fun _ => True) (zh_loop (F := fun n j (a : Int) => zf_Patches_hasAll_24_12_l1 x1 i g0 g1 n a j) (N := 24) (I := fun _ _ => True) (fun n j a j0 j1 _ k2 => ?_) 24 0 0 zi_fu (by decide) (by decide) (by decide) (by decide) trivial) fun q _ => zh_ite (fun _ => zh_ret trivial) fun _ => kk () hi trivial
  show zh_ok (zf_Patches_hasAll_24_12_l1_b x1 i g0 g1 (zf_Patches_hasAll_24_12_l1 x1 i g0 g1 n) a j) _
  unfold zf_Patches_hasAll_24_12_l1_b
  refine zh_ite (fun hj => zh_ite (fun _ => ?_) fun _ => zh_ret trivial) fun _ => zh_ret trivial
  rw [zi_w_id (x := j + 1) (by omega) (by omega)]
  exact zh_cond (zi_ix_of j0 (by omega)) (zh_cond (zi_ix_of i0 (by omega)) (zh_ite (fun _ => k2 _ (by omega) trivial) fun _ => k2 _ (by omega) trivial))
theorem yw_has1224 {x1 x3 : Int} {g0 g1 : Int → Int} (a1 : x1 ≤ 12) (b0 : 0 ≤ x3) (b1 : x3 ≤ 24) : zh_ok (zf_Patches_hasAll_12_24 x1 x3 g0 g1) fun _ => True := by
  unfold zf_Patches_hasAll_12_24
  refine zh_sum (Q := fun _ => True) (zh_loop (F := fun n i (_ : Unit) => zf_Patches_hasAll_12_24_l0 x1 x3 g0 g1 n i) (N := x3) (I := fun _ _ => True) (fun n i a i0 i1 _ kk => ?_) 24 0 () zi_fu (by omega) (by decide) b0 (by decide) trivial) (fun _ _ => zh_ret trivial) fun _ _ => zh_ret trivial
  show zh_ok (zf_Patches_hasAll_12_24_l0_b x1 x3 g0 g1 (zf_Patches_hasAll_12_24_l0 x1 x3 g0 g1 n) i) _
  unfold zf_Patches_hasAll_12_24_l0_b
  refine zh_ite (fun hi => ?_) fun _ => zh_ret trivial
  rw [zi_w_id (x := i + 1) (by omega) (by omega)]
  refine zh_bind (Q := fun _ => True) (zh_loop (F := fun n j (a : Int) => zf_Patches_hasAll_12_24_l1 x1 i g0 g1 n a j) (N := 12) (I := fun _ _ => True) (fun n j a j0 j1 _ k2 => ?_) 24 0 0 zi_fu (by decide) (by decide) (by decide) (by decide) trivial) fun q _ => zh_ite (fun _ => zh_ret trivial) fun _ => kk () hi trivial
  show zh_ok (zf_Patches_hasAll_12_24_l1_b x1 i g0 g1 (zf_Patches_hasAll_12_24_l1 x1 i g0 g1 n) a j) _
  unfold zf_Patches_hasAll_12_24_l1_b
  refine zh_ite (fun hj => zh_ite (fun _ => ?_) fun _ => zh_ret trivial) fun _ => zh_ret trivial
  rw [zi_w_id (x := j + 1) (by omega) (by omega)]
  exact zh_cond (zi_ix_of j0 (by omega)) (zh_cond (zi_ix_of i0 (by omega)) (zh_ite (fun _ => k2 _ (by omega) trivial) fun _ => k2 _ (by omega) trivial))
theorem yw_same (k : yk_sky t h u cl sc sr ch co ro br wc wr m) {p q : Int} {g0 g1 g5 : Int → Int} (p1 : 0 ≤ p) (p2 : p < 288) (q1 : 0 ≤ q) (q2 : q < 288) : zh_ok (zf_Patches_isSame p q h g0 g1 co ro br g5) fun _ => True := by
  unfold zf_Patches_isSame
  exact zh_cond (zi_ix_of p1 (by omega)) (zh_bind (yw_fill k p1 p2) fun r2 h2 => zh_cond (zi_ix_of q1 (by omega)) (zh_bind (yw_fill k q1 q2) fun r4 h4 => zh_bind (yw_has2424 h2.2 h4.1 h4.2) fun r5 _ => zh_ite (fun _ => zh_ret trivial) fun _ => zh_bind (yw_has2424 h4.2 h2.1 h2.2) fun r7 _ => zh_ite (fun _ => zh_ret trivial) fun _ => zh_ret trivial))
theorem yw_alikeTo (k : yk_sky t h u cl sc sr ch co ro br wc wr m) {p q : Int} {g0 g1 g2 g6 : Int → Int} (p1 : 0 ≤ p) (p2 : p < 288) (q1 : 0 ≤ q) (q2 : q ≤ 288) : zh_ok (zf_Patches_alikeTo p q h g0 g1 g2 co ro br g6) fun _ => True := by
  unfold zf_Patches_alikeTo
  refine zh_cond (zi_ix_of p1 (by omega)) (zh_ite (fun _ => zh_ret trivial) fun _ => zh_sum (Q := fun _ => True) (zh_loop (F := fun n i (a : (Int → Int) × (Int → Int)) => zf_Patches_alikeTo_l0 p h g0 g1 co ro br n i a.1 a.2) (N := 288) (I := fun _ _ => True) (fun n i a i0 i1 _ kk => ?_) 288 q (g2, g6) zi_fu (by omega) q1 q2 (by decide) trivial) (fun _ _ => zh_ret trivial) fun _ _ => zh_ret trivial)
  show zh_ok (zf_Patches_alikeTo_l0_b p h g0 g1 co ro br (zf_Patches_alikeTo_l0 p h g0 g1 co ro br n) i a.1 a.2) _
  unfold zf_Patches_alikeTo_l0_b
  refine zh_ite (fun hi => ?_) fun _ => zh_ret trivial
  rw [zi_w_id (x := i + 1) (by omega) (by omega)]
  have k2 : ∀ x y, zh_ok (zf_Patches_alikeTo_l0 p h g0 g1 co ro br n (i + 1) x y) _ := fun x y => kk (x, y) hi trivial
  exact zh_ite (fun _ => k2 _ _) fun _ => zh_cond (zi_ix_of i0 (by omega)) (zh_cond (zi_ix_of p1 (by omega)) (zh_ite (fun _ => zh_bind (yw_same k p1 p2 i0 hi) fun r8 _ => zh_ite (fun _ => k2 _ _) fun _ => zh_ret trivial) fun _ => k2 _ _))
theorem yw_alikeX (R : yl_R L K V nc tS tL sP lP kd fr hf to mc C mk mf mh mt) (k : yk_sky t h u cl sc sr ch co ro br wc wr m) {w f3 f4 f5 f8 f14 f16 : Int} {g0 g1 g9 g11 g12 g13 g14 : Int → Int} :
    zh_ok (zf_X_alike w f3 f4 f5 h u f8 t sc sr cl tS f14 nc f16 sP g0 g1 co ro br kd hf to K g9 V g11 g12 g13 g14) fun _ => True := by
  unfold zf_X_alike
  rw [ze_X_isWithin, zl_b]
  refine zh_ite (fun _ => zh_ret trivial) fun q => ?_
  obtain ⟨g0', e0, h0⟩ := ze_open (f := f3) (g := g0)
  rw [e0, zl_b]
  dsimp only
  refine zh_bind (yw_every R k) fun r4 _ => zh_ite (fun _ => zh_bind (Q := fun _ => True) ?_ fun _ _ => zh_ret trivial) fun _ => zh_bind (Q := fun r => r.1 = -1 ∨ (0 ≤ r.1 ∧ r.1 < 288)) ?_ fun r6 h6 => zh_ite (fun _ => zh_ret trivial) fun hne => zh_ite (fun _ => zh_ret trivial) fun _ => ?_
  · unfold zf_Patches_countAlike
    refine zh_bind (Q := fun _ => True) (zh_loop (F := fun n i (a : Int × (Int → Int) × (Int → Int)) => zf_Patches_countAlike_l0 h r4.2.2.2.2.2.2.2.2.1 r4.2.2.2.2.2.2.2.2.2.1 co ro br n a.1 i a.2.1 a.2.2) (N := 288) (I := fun _ _ => True) (fun n i a i0 i1 _ kk => ?_) 288 0 (0, _, _) zi_fu (by decide) (by decide) (by decide) (by decide) trivial) fun _ _ => zh_ret trivial
    show zh_ok (zf_Patches_countAlike_l0_b h r4.2.2.2.2.2.2.2.2.1 r4.2.2.2.2.2.2.2.2.2.1 co ro br (zf_Patches_countAlike_l0 h r4.2.2.2.2.2.2.2.2.1 r4.2.2.2.2.2.2.2.2.2.1 co ro br n) a.1 i a.2.1 a.2.2) _
    unfold zf_Patches_countAlike_l0_b
    refine zh_ite (fun hi => ?_) fun _ => zh_ret trivial
    rw [zi_w_id (x := i + 1) (by omega) (by omega)]
    have k2 : ∀ b1 b2 b3, zh_ok (zf_Patches_countAlike_l0 h r4.2.2.2.2.2.2.2.2.1 r4.2.2.2.2.2.2.2.2.2.1 co ro br n b1 (i + 1) b2 b3) _ := fun b1 b2 b3 => kk (b1, b2, b3) hi trivial
    exact zh_bind (yw_alikeTo k i0 hi (by decide) (by decide)) fun r _ => zh_ite (fun _ => k2 _ _ _) fun _ => k2 _ _ _
  · unfold zf_Patches_firstAlike
    refine zh_sum (Q := fun q => match q with
      | .inl _ => True
      | .inr b => 0 ≤ b.1 ∧ b.1 < 288) (zh_loop (F := fun n i (a : (Int → Int) × (Int → Int)) => zf_Patches_firstAlike_l0 h r4.2.2.2.2.2.2.2.2.1 r4.2.2.2.2.2.2.2.2.2.1 co ro br n i a.1 a.2) (N := 288) (I := fun _ _ => True) (fun n i a i0 i1 _ kk => ?_) 288 0 (_, _) zi_fu (by decide) (by decide) (by decide) (by decide) trivial) (fun _ _ => zh_ret (.inl rfl)) fun b hb => zh_ret (.inr hb)
    show zh_ok (zf_Patches_firstAlike_l0_b h r4.2.2.2.2.2.2.2.2.1 r4.2.2.2.2.2.2.2.2.2.1 co ro br (zf_Patches_firstAlike_l0 h r4.2.2.2.2.2.2.2.2.1 r4.2.2.2.2.2.2.2.2.2.1 co ro br n) i a.1 a.2) _
    unfold zf_Patches_firstAlike_l0_b
    refine zh_ite (fun hi => ?_) fun _ => zh_ret trivial
    rw [zi_w_id (x := i + 1) (by omega) (by omega)]
    exact zh_bind (yw_alikeTo k i0 hi (by decide) (by decide)) fun r _ => zh_ite (fun _ => kk (_, _) hi trivial) fun _ => zh_ret ⟨i0, hi⟩
  · have h6 := h6.resolve_left hne
    rw [zi_w_id (x := r6.1 + 1) (by omega) (by omega)]
    exact zh_bind (yw_alikeTo k h6.1 h6.2 (by omega) (by omega)) fun r _ => zh_ret trivial
theorem yw_known1 (k : yk_sky t h u cl sc sr ch co ro br wc wr m) {w s x y n : Int} {g0 g4 : Int → Int} (x1 : 0 ≤ x) (x2 : x < 24) (y1 : 0 ≤ y) (y2 : y < 12) (n0 : 0 ≤ n) (n1 : n ≤ 12) : zh_ok (zf_Patches_isKnown w s x y h n g0 co ro br g4) fun _ => True := by
  unfold zf_Patches_isKnown
  rw [ze_X_placeOf x1 x2 y1 y2, zl_b]
  exact zh_bind (yw_fill k (by omega) (by omega)) fun r2 h2 => zh_bind (yw_has2412 h2.2 n0 n1) fun r3 _ => zh_ite (fun _ => zh_ret trivial) fun _ => zh_ite (fun _ => zh_ret trivial) fun _ => zh_bind (yw_has1224 n1 h2.1 h2.2) fun r6 _ => zh_ite (fun _ => zh_ret trivial) fun _ => zh_ret trivial
theorem yw_knownX (R : yl_R L K V nc tS tL sP lP kd fr hf to mc C mk mf mh mt) (k : yk_sky t h u cl sc sr ch co ro br wc wr m) {a w n f4 f5 f6 f7 f10 f16 f18 : Int} {g0 g1 g3 g11 g13 : Int → Int} (n0 : 0 ≤ n) (n1 : n ≤ 220) :
    zh_ok (zf_X_known a w n f4 f5 f6 f7 h u f10 t sc sr cl tS f16 nc f18 sP g0 g1 T g3 co ro br kd hf to K g11 V g13) fun o => o.2.1 = if zs_in a 1 12 = 0 then n else if zs_in w 0 3 = 0 then n else if n < 3 * a then n else 0 := by
  unfold zf_X_known
  rw [ze_X_isWithin, zl_b]
  refine zh_ite (fun q => zh_ret (by rw [if_pos q])) fun q => ?_
  rw [if_neg q, ze_X_isWithin, zl_b]
  obtain ⟨a1, a2⟩ := zs_in_ne q
  refine zh_ite (fun q2 => zh_ret (by rw [if_pos q2])) fun q2 => ?_
  rw [if_neg q2, zi_w_id (x := 3 * a) (by omega) (by omega)]
  unfold zf_Tape_take
  by_cases c : n < 3 * a
  · rw [if_pos c, zl_b, if_pos rfl, if_pos c]
    exact zh_ret rfl
  rw [if_neg c, zl_b, if_neg (show ¬ (1 : Int) = 0 by decide), if_neg c]
  obtain ⟨g0', e0, h0⟩ := ze_open (f := f4) (g := g0)
  rw [e0, zl_b]
  dsimp only
  refine zh_bind (Q := fun r => 0 ≤ r.1 ∧ r.1 ≤ 12) ?_ fun r8 h8 => zh_sum (Q := fun q => match q with
    | .inl _ => True
    | .inr b => b.2.1 = 0) (zh_loop (F := fun n i (a : Int × Int × Int × Int × Int × Int × Int × (Int → Int) × (Int → Int) × (Int → Int)) => zf_X_known_l0 w 0 r8.1 h u t sc sr cl tS nc sP g0' r8.2 co ro br kd hf to K V n a.1 i a.2.1 a.2.2.1 a.2.2.2.1 a.2.2.2.2.1 a.2.2.2.2.2.1 a.2.2.2.2.2.2.1 a.2.2.2.2.2.2.2.1 a.2.2.2.2.2.2.2.2.1 a.2.2.2.2.2.2.2.2.2) (N := 288)
      (I := fun _ a => yv_ca L sP h u co ro br a.2.1 a.2.2.2.2.2.1) (fun n i a i0 i1 ha kk => ?_) 288 0 (0, 0, f6, f7, f10, f16, f18, g3, g11, g13) zi_fu (by decide) (by decide) (by decide) (by decide) yv_ca0) (fun a _ => zh_ite (fun _ => zh_ret rfl) fun _ => zh_ret rfl) fun b hb => zh_ret hb
  · unfold zf_Patches_takeParts
    rw [ze_Math_min, zl_b]
    have hm : (if 12 < a then (12 : Int) else a) = a := if_neg (by omega)
    rw [hm]
    refine zh_bind (Q := fun _ => True) (zh_loop (F := fun n i (g : Int → Int) => zf_Patches_takeParts_l0 a T n i g) (N := a) (I := fun _ _ => True) (fun n i g i0 i1 _ kk => ?_) 12 0 g1 zi_fu (by omega) (by decide) (by omega) (by decide) trivial) fun _ _ => zh_ret ⟨by show 0 ≤ a; omega, by show a ≤ 12; omega⟩
    show zh_ok (zf_Patches_takeParts_l0_b a T (zf_Patches_takeParts_l0 a T n) i g) _
    unfold zf_Patches_takeParts_l0_b
    refine zh_ite (fun hi => ?_) fun _ => zh_ret trivial
    rw [zi_w_id (x := 3 * i) (by omega) (by omega), zi_w_id (x := 3 * i + 1) (by omega) (by omega), zi_w_id (x := 3 * i + 2) (by omega) (by omega), zi_w_id (x := i + 1) (by omega) (by omega), ze_byteAt (by omega) (by omega), zl_b, ze_byteAt (by omega) (by omega), zl_b, ze_byteAt (by omega) (by omega), zl_b]
    exact zh_bind (Q := fun _ => True) (zh_ret trivial) fun _ _ => zh_cond (zi_ix_of i0 (by omega)) (kk _ hi trivial)
  · obtain ⟨a1', a2', a3, a4, a5, a6, a7, a8, a9, a10⟩ := a
    have ha : yv_ca L sP h u co ro br a2' a6 := ha
    show zh_ok (zf_X_known_l0_b w 0 r8.1 h u t sc sr cl tS nc sP g0' r8.2 co ro br kd hf to K V (zf_X_known_l0 w 0 r8.1 h u t sc sr cl tS nc sP g0' r8.2 co ro br kd hf to K V n) a1' i a2' a3 a4 a5 a6 a7 a8 a9 a10) _
    unfold zf_X_known_l0_b
    refine zh_ite (fun hi => ?_) fun _ => zh_ret trivial
    obtain ⟨s', as', ho', a', g', S', e1, -, c1⟩ := yx_look (f2 := a3) (f3 := a4) (f6 := a5) (f := a7) (g := a8) (S := a9) (x := i % 24) (y := i / 24) R k (by omega) (by omega) (by omega) (by omega) ha
    rw [ze_X_columnOf i0 hi, zl_b, ze_X_rowOf i0 hi, zl_b]
    rw [e1, zl_b, zi_w_id (x := i + 1) (by omega) (by omega)]
    dsimp only
    have k2 : ∀ b1 b2 b3 b4 b5 b6 b7 b8 b9 b10, yv_ca L sP h u co ro br b2 b6 → zh_ok (zf_X_known_l0 w 0 r8.1 h u t sc sr cl tS nc sP g0' r8.2 co ro br kd hf to K V n b1 (i + 1) b2 b3 b4 b5 b6 b7 b8 b9 b10) _ := fun b1 b2 b3 b4 b5 b6 b7 b8 b9 b10 q => kk (b1, b2, b3, b4, b5, b6, b7, b8, b9, b10) hi q
    exact zh_ite (fun _ => zh_bind (yw_known1 k (by omega) (by omega) (by omega) (by omega) h8.1 h8.2) fun r14 _ => zh_ite (fun _ => k2 _ _ _ _ _ _ _ _ _ _ c1) fun _ => zh_ite (fun _ => zh_ret rfl) fun _ => k2 _ _ _ _ _ _ _ _ _ _ c1)
      fun _ => zh_bind (yw_known1 k (by omega) (by omega) (by omega) (by omega) h8.1 h8.2) fun r14 _ => zh_ite (fun _ => k2 _ _ _ _ _ _ _ _ _ _ c1) fun _ => zh_ite (fun _ => zh_ret rfl) fun _ => k2 _ _ _ _ _ _ _ _ _ _ c1
end YWP
end
section
/-! alike, known on the reference's side; named: both sides answer. -/
section YWR
variable {L : zLW} {K V kd fr hf to C mk mf mh mt : Int → Int} {nc tS tL sP lP mc : Int} {t h u cl sc sr ch : Int} {co ro br wc wr m : Int → Int} {T M : Int → Int}
theorem ym_seen (R : yl_R L K V nc tS tL sP lP kd fr hf to mc C mk mf mh mt) (k : yk_sky t h u cl sc sr ch co ro br wc wr m) {p : Int} (p1 : 0 ≤ p) (p2 : p < 288) {g S : Int → Int} : ∃ s' g' S', zf_M_seenFrom p mc m mk g mh mt C S = some (s', g', S') ∧ yv_is L tS t h u cl sc sr co ro br (p % 24) (p / 24) s' := by
  obtain ⟨s', g', S', e1, e2⟩ := ym_seenFrom (g := g) (S := S) (x := p % 24) (y := p / 24) R k (by omega) (by omega) (by omega) (by omega)
  rw [show 24 * (p / 24) + p % 24 = p by omega] at e1
  exact ⟨s', g', S', e1, e2⟩
theorem yw_puts24 {x v : Int} {g : Int → Int} (h0 : 0 ≤ x) (h1 : x < 24) : zh_ok (zf_M_puts_24 x v g) fun _ => True := by
  unfold zf_M_puts_24
  refine zh_bind (Q := fun q => 0 ≤ q.1 ∧ q.1 < 24) (zh_loop2 (F := fun n (a : Int × (Int → Int)) => zf_M_puts_24_l0 v n a.1 a.2) (μ := fun a => a.1.toNat) (I := fun a => 0 ≤ a.1 ∧ a.1 < 24) (fun n a ha kk => ?_) 24 (x, g) zi_fu (by show x.toNat ≤ 24; omega) (by decide) ⟨h0, h1⟩) fun q hq => zh_cond (zi_ix_of hq.1 (by have := hq.2; omega)) (zh_ret trivial)
  obtain ⟨a1, a2⟩ := a
  obtain ⟨b1, b2⟩ := ha
  have b1 : 0 ≤ a1 := b1
  have b2 : a1 < 24 := b2
  show zh_ok (zf_M_puts_24_l0_b v (zf_M_puts_24_l0 v n) a1 a2) _
  unfold zf_M_puts_24_l0_b
  refine zh_ite (fun hi => ?_) fun _ => zh_ret ⟨b1, b2⟩
  rw [zi_w_id (x := a1 - 1) (by omega) (by omega)]
  exact zh_cond (zi_ix_of (by omega) (by omega)) (zh_ite (fun _ => zh_cond (zi_ix_of (by omega) (by omega)) (kk (a1 - 1, _) (by show (a1 - 1).toNat < a1.toNat; omega) ⟨by show 0 ≤ a1 - 1; omega, by show a1 - 1 < 24; omega⟩)) fun _ => zh_ret ⟨b1, b2⟩)
theorem yw_puts12 {x v : Int} {g : Int → Int} (h0 : 0 ≤ x) (h1 : x < 12) : zh_ok (zf_M_puts_12 x v g) fun _ => True := by
  unfold zf_M_puts_12
  refine zh_bind (Q := fun q => 0 ≤ q.1 ∧ q.1 < 12) (zh_loop2 (F := fun n (a : Int × (Int → Int)) => zf_M_puts_12_l0 v n a.1 a.2) (μ := fun a => a.1.toNat) (I := fun a => 0 ≤ a.1 ∧ a.1 < 12) (fun n a ha kk => ?_) 24 (x, g) zi_fu (by show x.toNat ≤ 24; omega) (by decide) ⟨h0, h1⟩) fun q hq => zh_cond (zi_ix_of hq.1 (by have := hq.2; omega)) (zh_ret trivial)
  obtain ⟨a1, a2⟩ := a
  obtain ⟨b1, b2⟩ := ha
  have b1 : 0 ≤ a1 := b1
  have b2 : a1 < 12 := b2
  show zh_ok (zf_M_puts_12_l0_b v (zf_M_puts_12_l0 v n) a1 a2) _
  unfold zf_M_puts_12_l0_b
  refine zh_ite (fun hi => ?_) fun _ => zh_ret ⟨b1, b2⟩
  rw [zi_w_id (x := a1 - 1) (by omega) (by omega)]
  exact zh_cond (zi_ix_of (by omega) (by omega)) (zh_ite (fun _ => zh_cond (zi_ix_of (by omega) (by omega)) (kk (a1 - 1, _) (by show (a1 - 1).toNat < a1.toNat; omega) ⟨by show 0 ≤ a1 - 1; omega, by show a1 - 1 < 12; omega⟩)) fun _ => zh_ret ⟨b1, b2⟩)
theorem yw_mpart (k : yk_sky t h u cl sc sr ch co ro br wc wr m) {p i : Int} (p1 : 0 ≤ p) (p2 : p < 288) (i0 : 0 ≤ i) (i1 : i < 24) : zh_ok (zf_M_partOf p i m) fun _ => True := by
  obtain ⟨-, ⟨⟨h1, h2⟩, k128⟩, -, -, -, -, -, ki⟩ := id k
  obtain ⟨-, ⟨⟨c1, c2⟩, -⟩, -⟩ := ki i i0 i1
  unfold zf_M_partOf zf_M_standsAt
  rw [zi_w_id (x := 0 + i) (by omega) (by omega), Int.zero_add, zl_ci i0 (by omega), k128, zi_w_id (x := m i + h) (by omega) (by omega), zi_rem_eq (by omega) (by omega) (by decide) (by decide), zl_b, zi_rem_eq p1 (by omega) (by decide) (by decide), (ze_toRight (a := p % 24) (b := (m i + h) % 24) (by omega) (by omega) (by omega) (by omega)).1, zl_b, zi_w_id (x := 24 + i) (by omega) (by omega), zi_w_id (x := 48 + i) (by omega) (by omega)]
  exact zh_cond (zi_ix_of (by omega) (by omega)) (zh_cond (zi_ix_of (by omega) (by omega)) (zh_ret trivial))
def yw_pm (N : Int) (g : Int → Int) : Prop := ∀ j, 0 ≤ j → j < N → 0 ≤ g j ∧ g j ≤ 24
theorem yw_mpatch (R : yl_R L K V nc tS tL sP lP kd fr hf to mc C mk mf mh mt) (k : yk_sky t h u cl sc sr ch co ro br wc wr m) {p : Int} (p1 : 0 ≤ p) (p2 : p < 288) {g2 g6 g7 g8 g9 : Int → Int} (hp : yw_pm p g8) :
    zh_ok (zf_M_laysPatch p mc m mk g2 mh mt C g6 g7 g8 g9) fun o => yw_pm (p + 1) o.2.2.2.1 := by
  unfold zf_M_laysPatch
  obtain ⟨s', g', S', e1, -⟩ := ym_seen (g := g2) (S := g6) R k p1 p2
  rw [e1, zl_b]
  dsimp only
  refine zh_bind (Q := fun q => 0 ≤ q.1 ∧ q.1 ≤ 24) (zh_loop (F := fun n i (a : Int × (Int → Int)) => zf_M_laysPatch_l0 p s' m n a.1 i a.2) (N := 24) (I := fun i a => 0 ≤ a.1 ∧ a.1 ≤ i) (fun n i a i0 i1 ha kk => ?_) 24 0 (0, g7) zi_fu (by decide) (by decide) (by decide) (by decide) ⟨Int.le_refl 0, Int.le_refl 0⟩) fun q hq => zh_cond (zi_ix_of p1 (by omega)) (zh_bind (Q := fun _ => True) (zh_loop (F := fun n i (a : Int → Int) => zf_M_laysPatch_l1 p q.1 q.2 n i a) (N := q.1) (I := fun _ _ => True) (fun n i a i0 i1 _ kk => ?_) 24 0 g9 zi_fu (by have := hq.2; omega) (by decide) hq.1 (by decide) trivial) fun q2 _ => zh_ret fun j j0 j1 => ?_)
  · obtain ⟨a1, a2⟩ := a
    obtain ⟨b1, b2⟩ := ha
    have b1 : 0 ≤ a1 := b1
    have b2 : a1 ≤ i := b2
    show zh_ok (zf_M_laysPatch_l0_b p s' m (zf_M_laysPatch_l0 p s' m n) a1 i a2) _
    unfold zf_M_laysPatch_l0_b
    refine zh_ite (fun hi => ?_) fun _ => zh_ret ⟨b1, by show a1 ≤ 24; omega⟩
    rw [ze_has2 i0 (by omega), zl_b, zi_w_id (x := i + 1) (by omega) (by omega), zi_w_id (x := a1 + 1) (by omega) (by omega)]
    exact zh_ite (fun _ => kk (a1, a2) hi ⟨b1, by show a1 ≤ i + 1; omega⟩) fun _ => zh_bind (yw_mpart k p1 p2 i0 hi) fun r5 _ => zh_bind (yw_puts24 b1 (by omega)) fun r6 _ => kk (a1 + 1, r6) hi ⟨by show 0 ≤ a1 + 1; omega, by show a1 + 1 ≤ i + 1; omega⟩
  · show zh_ok (zf_M_laysPatch_l1_b p q.1 q.2 (zf_M_laysPatch_l1 p q.1 q.2 n) i a) _
    unfold zf_M_laysPatch_l1_b
    have := hq.2
    refine zh_ite (fun hi => ?_) fun _ => zh_ret trivial
    rw [zi_w_id (x := i + 1) (by omega) (by omega), zi_w_id (x := 24 * p) (by omega) (by omega), zi_w_id (x := 24 * p + i) (by omega) (by omega)]
    exact zh_cond (zi_ix_of i0 (by omega)) (zh_cond (zi_ix_of (by omega) (by omega)) (kk _ hi trivial))
  · show 0 ≤ zv_up g8 p q.1 j ∧ zv_up g8 p q.1 j ≤ 24
    by_cases e : j = p
    · subst e; rw [zv_up_s]; exact hq
    · rw [zv_up_n e]; exact hp j j0 (by omega)
theorem yw_mpatches (R : yl_R L K V nc tS tL sP lP kd fr hf to mc C mk mf mh mt) (k : yk_sky t h u cl sc sr ch co ro br wc wr m) {g2 g6 g7 g8 g9 : Int → Int} :
    zh_ok (zf_M_laysPatches mc m mk g2 mh mt C g6 g7 g8 g9) fun o => yw_pm 288 o.2.2.2.1 := by
  unfold zf_M_laysPatches
  refine zh_bind (Q := fun o => yw_pm 288 o.2.2.2.1) (zh_loop (F := fun n i (a : (Int → Int) × (Int → Int) × (Int → Int) × (Int → Int) × (Int → Int)) => zf_M_laysPatches_l0 mc m mk mh mt C n i a.1 a.2.1 a.2.2.1 a.2.2.2.1 a.2.2.2.2) (N := 288) (I := fun i a => yw_pm i a.2.2.2.1) (fun n i a i0 i1 ha kk => ?_) 288 0 (g2, g6, g7, g8, g9) zi_fu (by decide) (by decide) (by decide) (by decide) (fun j j0 j1 => by omega)) fun q hq => zh_ret hq
  obtain ⟨a1, a2, a3, a4, a5⟩ := a
  show zh_ok (zf_M_laysPatches_l0_b mc m mk mh mt C (zf_M_laysPatches_l0 mc m mk mh mt C n) i a1 a2 a3 a4 a5) _
  unfold zf_M_laysPatches_l0_b
  refine zh_ite (fun hi => ?_) fun hi => ?_
  rotate_left
  · obtain rfl : i = 288 := by omega
    exact zh_ret ha
  rw [zi_w_id (x := i + 1) (by omega) (by omega)]
  exact zh_bind (yw_mpatch R k i0 hi ha) fun r2 h2 => kk (_, _, _, _, _) hi h2
theorem yw_mAlike {p q : Int} {g0 g1 : Int → Int} (hp : yw_pm 288 g0) (p1 : 0 ≤ p) (p2 : p < 288) (q1 : 0 ≤ q) (q2 : q < 288) : zh_ok (zf_M_areAlike p q g0 g1) fun _ => True := by
  unfold zf_M_areAlike
  obtain ⟨a0, a1⟩ := hp p p1 p2
  refine zh_cond (zi_ix_of p1 (by omega)) (zh_cond (zi_ix_of q1 (by omega)) (zh_ite (fun _ => zh_sum (Q := fun _ => True) (zh_loop (F := fun n i (_ : Unit) => zf_M_areAlike_l0 p q g0 g1 n i) (N := g0 p) (I := fun _ _ => True) (fun n i a i0 i1 _ kk => ?_) 24 0 () zi_fu (by omega) (by decide) a0 (by decide) trivial) (fun _ _ => zh_ret trivial) fun _ _ => zh_ret trivial) fun _ => zh_ret trivial))
  show zh_ok (zf_M_areAlike_l0_b p q g0 g1 (zf_M_areAlike_l0 p q g0 g1 n) i) _
  unfold zf_M_areAlike_l0_b
  refine zh_cond (zi_ix_of p1 (by omega)) (zh_ite (fun hi => ?_) fun _ => zh_ret trivial)
  rw [zi_w_id (x := i + 1) (by omega) (by omega), zi_w_id (x := 24 * p) (by omega) (by omega), zi_w_id (x := 24 * p + i) (by omega) (by omega), zi_w_id (x := 24 * q) (by omega) (by omega), zi_w_id (x := 24 * q + i) (by omega) (by omega)]
  exact zh_cond (zi_ix_of (by omega) (by omega)) (zh_cond (zi_ix_of (by omega) (by omega)) (zh_ite (fun _ => kk () hi trivial) fun _ => zh_ret trivial))
theorem yw_mAlikeFrom {p q : Int} {g0 g1 : Int → Int} (hp : yw_pm 288 g0) (p1 : 0 ≤ p) (p2 : p < 288) (q1 : 0 ≤ q) (q2 : q ≤ 288) : zh_ok (zf_M_alikeFrom p q g0 g1) fun _ => True := by
  unfold zf_M_alikeFrom
  refine zh_sum (Q := fun _ => True) (zh_loop (F := fun n i (_ : Unit) => zf_M_alikeFrom_l0 p g0 g1 n i) (N := 288) (I := fun _ _ => True) (fun n i a i0 i1 _ kk => ?_) 288 q () zi_fu (by omega) q1 q2 (by decide) trivial) (fun _ _ => zh_ret trivial) fun _ _ => zh_ret trivial
  show zh_ok (zf_M_alikeFrom_l0_b p g0 g1 (zf_M_alikeFrom_l0 p g0 g1 n) i) _
  unfold zf_M_alikeFrom_l0_b
  refine zh_ite (fun hi => ?_) fun _ => zh_ret trivial
  rw [zi_w_id (x := i + 1) (by omega) (by omega)]
  exact zh_ite (fun _ => kk () hi trivial) fun _ => zh_bind (yw_mAlike hp p1 p2 i0 hi) fun r _ => zh_ite (fun _ => kk () hi trivial) fun _ => zh_ret trivial
theorem yw_alikeM (R : yl_R L K V nc tS tL sP lP kd fr hf to mc C mk mf mh mt) (k : yk_sky t h u cl sc sr ch co ro br wc wr m) {w : Int} {g2 g6 g7 g8 g9 : Int → Int} : zh_ok (zf_M_alike w mc m mk g2 mh mt C g6 g7 g8 g9) fun _ => True := by
  unfold zf_M_alike
  rw [ze_M_in, zl_b]
  refine zh_ite (fun _ => zh_ret trivial) fun _ => zh_bind (yw_mpatches R k) fun r3 h3 => zh_bind (Q := fun q => q.2 = -1 ∨ (0 ≤ q.2 ∧ q.2 < 288)) (zh_loop (F := fun n i (a : Int × Int) => zf_M_alike_l0 r3.2.2.2.1 r3.2.2.2.2 n a.1 a.2 i) (N := 288) (I := fun _ a => a.2 = -1 ∨ (0 ≤ a.2 ∧ a.2 < 288)) (fun n i a i0 i1 ha kk => ?_) 288 0 (0, -1) zi_fu (by decide) (by decide) (by decide) (by decide) (.inl rfl)) fun q hq => zh_ite (fun _ => zh_ret trivial) fun _ => zh_ite (fun _ => zh_ret trivial) fun hne => zh_ite (fun _ => zh_ret trivial) fun _ => ?_
  · show zh_ok (zf_M_alike_l0_b r3.2.2.2.1 r3.2.2.2.2 (zf_M_alike_l0 r3.2.2.2.1 r3.2.2.2.2 n) a.1 a.2 i) _
    unfold zf_M_alike_l0_b
    refine zh_ite (fun hi => ?_) fun _ => zh_ret ha
    rw [zi_w_id (x := i + 1) (by omega) (by omega)]
    exact zh_cond (zi_ix_of i0 (by omega)) (zh_ite (fun _ => kk (_, _) hi ha) fun _ => zh_bind (yw_mAlikeFrom h3 i0 hi (by decide) (by decide)) fun r7 _ => zh_ite (fun _ => kk (_, _) hi ha) fun _ => zh_ite (fun _ => kk (_, _) hi (.inr ⟨i0, hi⟩)) fun _ => kk (_, _) hi ha)
  · have hq := hq.resolve_left hne
    rw [zi_w_id (x := q.2 + 1) (by omega) (by omega)]
    exact zh_bind (yw_mAlikeFrom h3 hq.1 hq.2 (by omega) (by omega)) fun r _ => zh_ret trivial
theorem yw_mHas {p n : Int} {g0 g1 g2 : Int → Int} (hp : yw_pm 288 g0) (p1 : 0 ≤ p) (p2 : p < 288) (n0 : 0 ≤ n) (n1 : n ≤ 12) : zh_ok (zf_M_hasParts p n g0 g1 g2) fun _ => True := by
  unfold zf_M_hasParts
  obtain ⟨a0, a1⟩ := hp p p1 p2
  refine zh_sum (Q := fun _ => True) (zh_loop (F := fun f i (a : Int) => zf_M_hasParts_l0 p n g0 g1 g2 f a i) (N := n) (I := fun _ a => 0 ≤ a ∧ a ≤ g0 p) (fun f i a i0 i1 ha kk => ?_) 24 0 0 zi_fu (by omega) (by decide) n0 (by decide) ⟨Int.le_refl 0, a0⟩) (fun _ _ => zh_ret trivial) fun _ _ => zh_ret trivial
  show zh_ok (zf_M_hasParts_l0_b p n g0 g1 g2 (zf_M_hasParts_l0 p n g0 g1 g2 f) a i) _
  unfold zf_M_hasParts_l0_b
  refine zh_ite (fun hi => ?_) fun _ => zh_ret trivial
  refine zh_bind (Q := fun q => 0 ≤ q ∧ q ≤ g0 p) (zh_loop (F := fun f j (_ : Unit) => zf_M_hasParts_l1 p i g0 g1 g2 f j) (N := g0 p) (I := fun _ _ => True) (fun f j _ j0 j1 _ k2 => ?_) 24 a () zi_fu (by omega) ha.1 ha.2 (by decide) trivial) fun q hq => ?_
  · show zh_ok (zf_M_hasParts_l1_b p i g0 g1 g2 (zf_M_hasParts_l1 p i g0 g1 g2 f) j) _
    unfold zf_M_hasParts_l1_b
    refine zh_cond (zi_ix_of p1 (by omega)) (zh_ite (fun hj => ?_) fun _ => zh_ret ⟨j0, j1⟩)
    rw [zi_w_id (x := j + 1) (by omega) (by omega), zi_w_id (x := 24 * p) (by omega) (by omega), zi_w_id (x := 24 * p + j) (by omega) (by omega)]
    exact zh_cond (zi_ix_of (by omega) (by omega)) (zh_cond (zi_ix_of i0 (by omega)) (zh_ite (fun _ => k2 () hj trivial) fun _ => zh_ret ⟨j0, j1⟩))
  · obtain ⟨q0, q1⟩ := hq
    rw [zi_w_id (x := i + 1) (by omega) (by omega), zi_w_id (x := q + 1) (by omega) (by omega), zi_w_id (x := 24 * p) (by omega) (by omega), zi_w_id (x := 24 * p + q) (by omega) (by omega)]
    refine zh_cond (zi_ix_of p1 (by omega)) (zh_ite (fun _ => zh_ret trivial) fun hne => zh_cond (zi_ix_of (by omega) (by omega)) (zh_cond (zi_ix_of i0 (by omega)) (zh_ite (fun _ => kk (q + 1) hi ⟨by omega, by omega⟩) fun _ => zh_ret trivial)))
theorem yw_knownM (R : yl_R L K V nc tS tL sP lP kd fr hf to mc C mk mf mh mt) (k : yk_sky t h u cl sc sr ch co ro br wc wr m) {a w n : Int} {g1 g4 g8 g9 g10 g11 : Int → Int} (n0 : 0 ≤ n) (n1 : n ≤ 220) :
    zh_ok (zf_M_known a w n mc M g1 m mk g4 mh mt C g8 g9 g10 g11) fun o => o.2.1 = if zs_in a 1 12 = 0 then n else if zs_in w 0 3 = 0 then n else if n < 3 * a then n else 0 := by
  unfold zf_M_known
  rw [ze_M_in, zl_b]
  refine zh_ite (fun q => zh_ret (by rw [if_pos q])) fun q => ?_
  rw [if_neg q, ze_M_in, zl_b]
  obtain ⟨a1, a2⟩ := zs_in_ne q
  refine zh_ite (fun q2 => zh_ret (by rw [if_pos q2])) fun q2 => ?_
  rw [if_neg q2, zi_w_id (x := 3 * a) (by omega) (by omega)]
  refine zh_ite (fun c => zh_ret (by rw [if_pos c])) fun c => ?_
  rw [if_neg c]
  refine zh_bind (Q := fun _ => True) (zh_loop (F := fun f i (g : Int → Int) => zf_M_known_l0 a M f i g) (N := a) (I := fun _ _ => True) (fun f i g i0 i1 _ kk => ?_) 12 0 g1 zi_fu (by omega) (by decide) (by omega) (by decide) trivial) fun q17 _ => zh_bind (yw_mpatches R k) fun r18 h18 => zh_bind (Q := fun _ => True) (zh_loop (F := fun f i (b : Int × Int) => zf_M_known_l1 a w q17 r18.2.2.2.1 r18.2.2.2.2 f b.1 b.2 i) (N := 288) (I := fun _ _ => True) (fun f i b i0 i1 _ kk => ?_) 288 0 (0, -2) zi_fu (by decide) (by decide) (by decide) (by decide) trivial) fun _ _ => zh_ite (fun _ => zh_ret rfl) fun _ => zh_ret rfl
  · show zh_ok (zf_M_known_l0_b a M (zf_M_known_l0 a M f) i g) _
    unfold zf_M_known_l0_b
    refine zh_ite (fun hi => ?_) fun _ => zh_ret trivial
    rw [zi_w_id (x := 3 * i) (by omega) (by omega), zi_w_id (x := 3 * i + 1) (by omega) (by omega), zi_w_id (x := 3 * i + 2) (by omega) (by omega), zi_w_id (x := i + 1) (by omega) (by omega)]
    exact zh_cond (zi_ix_of (by omega) (by omega)) (zh_cond (zi_ix_of (by omega) (by omega)) (zh_cond (zi_ix_of (by omega) (by omega)) (zh_ite (fun _ => zh_bind (yw_puts12 i0 (by omega)) fun r _ => kk r hi trivial) fun _ => zh_ite (fun _ => zh_bind (yw_puts12 i0 (by omega)) fun r _ => kk r hi trivial) fun _ => zh_ite (fun _ => zh_bind (yw_puts12 i0 (by omega)) fun r _ => kk r hi trivial) fun _ => zh_bind (yw_puts12 i0 (by omega)) fun r _ => kk r hi trivial)))
  · show zh_ok (zf_M_known_l1_b a w q17 r18.2.2.2.1 r18.2.2.2.2 (zf_M_known_l1 a w q17 r18.2.2.2.1 r18.2.2.2.2 f) b.1 b.2 i) _
    unfold zf_M_known_l1_b
    refine zh_ite (fun hi => ?_) fun _ => zh_ret trivial
    rw [zi_w_id (x := i + 1) (by omega) (by omega)]
    have k2 : ∀ x y, zh_ok (zf_M_known_l1 a w q17 r18.2.2.2.1 r18.2.2.2.2 f x y (i + 1)) _ := fun x y => kk (x, y) hi trivial
    exact zh_bind (yw_mHas h18 i0 hi (by omega) (by omega)) fun r _ => zh_ite (fun _ => k2 _ _) fun _ => zh_ite (fun _ => zh_cond (zi_ix_of i0 (by omega)) (zh_ite (fun _ => zh_ite (fun _ => k2 _ _) fun _ => k2 _ _) fun _ => k2 _ _)) fun _ => zh_ite (fun _ => k2 _ _) fun _ => k2 _ _
end YWR
end
section
/-! sold: alike on both sides. -/
def ysC (w hv : Int → Int) (W : Int → Int) (i c : Int) : Prop := hv i ≤ c ∧ W c < W (c - hv i) + w i
def ysW (w hv : Int → Int) : Nat → Int → Int
  | 0, _ => 0
  | i + 1, c => if hv i ≤ c ∧ ysW w hv i c < ysW w hv i (c - hv i) + w i then ysW w hv i (c - hv i) + w i else ysW w hv i c
def ysB (w hv : Int → Int) : Nat → Int → Int
  | 0, _ => 0
  | i + 1, c => if hv i ≤ c ∧ ysW w hv i c < ysW w hv i (c - hv i) + w i then zi_or (ysB w hv i (c - hv i)) (zi_shl 1 i) else ysB w hv i c
def ysV (w hv : Int → Int) : Nat → Int → Int
  | 0, _ => 0
  | i + 1, c => if hv i ≤ c ∧ ysW w hv i c < ysW w hv i (c - hv i) + w i then ysV w hv i (c - hv i) + hv i else ysV w hv i c
def ysS (f : Int → Int) (b : Int) : Nat → Int
  | 0 => 0
  | n + 1 => ysS f b n + (if zb b n = true then f n else 0)
def ysR (w hv : Int → Int) : Prop := ∀ i, 0 ≤ i → i < 24 → (0 ≤ w i ∧ w i ≤ 999) ∧ (0 ≤ hv i ∧ hv i ≤ 99)
section YSO
variable {w hv : Int → Int}
theorem ysW_in (h : ysR w hv) : ∀ (i : Nat) (c : Int), i ≤ 24 → 0 ≤ ysW w hv i c ∧ ysW w hv i c ≤ 999 * i
  | 0, _, _ => ⟨Int.le_refl 0, Int.le_refl 0⟩
  | i + 1, c, hi => by
    obtain ⟨a1, a2⟩ := ysW_in h i c (by omega)
    obtain ⟨b1, b2⟩ := ysW_in h i (c - hv i) (by omega)
    obtain ⟨⟨c1, c2⟩, -⟩ := h i (by omega) (by omega)
    show 0 ≤ (if hv i ≤ c ∧ ysW w hv i c < ysW w hv i (c - hv i) + w i then ysW w hv i (c - hv i) + w i else ysW w hv i c) ∧ (if hv i ≤ c ∧ ysW w hv i c < ysW w hv i (c - hv i) + w i then ysW w hv i (c - hv i) + w i else ysW w hv i c) ≤ 999 * ((i + 1 : Nat) : Int)
    split <;> omega
theorem ysW_mono (h : ysR w hv) : ∀ (i : Nat) (c d : Int), i ≤ 24 → c ≤ d → ysW w hv i c ≤ ysW w hv i d
  | 0, _, _, _, _ => Int.le_refl 0
  | i + 1, c, d, hi, hcd => by
    have a := ysW_mono h i c d (by omega) hcd
    have b := ysW_mono h i (c - hv i) (d - hv i) (by omega) (by omega)
    show (if hv i ≤ c ∧ ysW w hv i c < ysW w hv i (c - hv i) + w i then ysW w hv i (c - hv i) + w i else ysW w hv i c) ≤ (if hv i ≤ d ∧ ysW w hv i d < ysW w hv i (d - hv i) + w i then ysW w hv i (d - hv i) + w i else ysW w hv i d)
    split <;> split <;> omega
theorem ysB_in : ∀ (i : Nat) (c : Int), i ≤ 24 → z24 (ysB w hv i c) ∧ ∀ j : Nat, i ≤ j → zb (ysB w hv i c) j = false
  | 0, _, _ => ⟨z24_0, fun _ _ => zb_0⟩
  | i + 1, c, hi => by
    show z24 (if hv i ≤ c ∧ ysW w hv i c < ysW w hv i (c - hv i) + w i then zi_or (ysB w hv i (c - hv i)) (zi_shl 1 i) else ysB w hv i c) ∧ ∀ j : Nat, i + 1 ≤ j → zb (if hv i ≤ c ∧ ysW w hv i c < ysW w hv i (c - hv i) + w i then zi_or (ysB w hv i (c - hv i)) (zi_shl 1 i) else ysB w hv i c) j = false
    split
    · obtain ⟨a1, a2⟩ := ysB_in i (c - hv i) (by omega)
      refine ⟨z24_or a1 (z24_shl (by omega) (by omega)), fun j hj => ?_⟩
      rw [zb_or, a2 j (by omega), zb_shl (by omega) (by omega), Int.toNat_natCast, decide_eq_false (by omega)]; rfl
    · obtain ⟨a1, a2⟩ := ysB_in i c (by omega)
      exact ⟨a1, fun j hj => a2 j (by omega)⟩
theorem ysV_in (h : ysR w hv) : ∀ (i : Nat) (c : Int), i ≤ 24 → 0 ≤ c → 0 ≤ ysV w hv i c ∧ ysV w hv i c ≤ c
  | 0, _, _, h0 => ⟨Int.le_refl 0, h0⟩
  | i + 1, c, hi, h0 => by
    obtain ⟨-, c1, c2⟩ := h i (by omega) (by omega)
    show 0 ≤ (if hv i ≤ c ∧ ysW w hv i c < ysW w hv i (c - hv i) + w i then ysV w hv i (c - hv i) + hv i else ysV w hv i c) ∧ (if hv i ≤ c ∧ ysW w hv i c < ysW w hv i (c - hv i) + w i then ysV w hv i (c - hv i) + hv i else ysV w hv i c) ≤ c
    split
    · rename_i q
      have := ysV_in h i (c - hv i) (by omega) (by omega)
      omega
    · exact ysV_in h i c (by omega) h0
theorem ysS_eq {f : Int → Int} {a b : Int} : ∀ n : Nat, (∀ j, j < n → zb a j = zb b j) → ysS f a n = ysS f b n
  | 0, _ => rfl
  | n + 1, h => by
    show ysS f a n + (if zb a n = true then f n else 0) = ysS f b n + (if zb b n = true then f n else 0)
    rw [ysS_eq n fun j hj => h j (by omega), h n (by omega)]
theorem ysS_add {f : Int → Int} {a b : Int} {k : Nat} (hk : zb a k = false) (hb : zb b k = true) : ∀ n : Nat, k < n → (∀ j, j < n → j ≠ k → zb a j = zb b j) → ysS f b n = ysS f a n + f k
  | 0, h, _ => by omega
  | n + 1, h, e => by
    show ysS f b n + (if zb b n = true then f n else 0) = ysS f a n + (if zb a n = true then f n else 0) + f k
    by_cases q : k = n
    · subst q
      rw [ysS_eq k fun j hj => (e j (by omega) (by omega)).symm, hk, hb, if_pos rfl, if_neg (by decide)]; omega
    · rw [ysS_add hk hb n (by omega) fun j hj => e j (by omega), e n (by omega) (fun z => q z.symm)]; omega
theorem ysS_0 {f : Int → Int} : ∀ n : Nat, ysS f 0 n = 0
  | 0 => rfl
  | n + 1 => by
    show ysS f 0 n + (if zb 0 n = true then f n else 0) = 0
    rw [ysS_0 n, zb_0]; rfl
theorem ysS_or {f : Int → Int} {b : Int} {i : Nat} (hi : i < 24) (h0 : zb b i = false) : ysS f (zi_or b (zi_shl 1 i)) 24 = ysS f b 24 + f i := by
  refine ysS_add h0 ?_ 24 hi fun j hj hne => ?_
  · rw [zb_or, zb_shl (by omega) (by omega), Int.toNat_natCast, decide_eq_true rfl, Bool.or_true]
  · rw [zb_or, zb_shl (by omega) (by omega), Int.toNat_natCast, decide_eq_false hne, Bool.or_false]
theorem ysS_W : ∀ (i : Nat) (c : Int), i ≤ 24 → ysS w (ysB w hv i c) 24 = ysW w hv i c
  | 0, _, _ => ysS_0 24
  | i + 1, c, hi => by
    show ysS w (if hv i ≤ c ∧ ysW w hv i c < ysW w hv i (c - hv i) + w i then zi_or (ysB w hv i (c - hv i)) (zi_shl 1 i) else ysB w hv i c) 24 = (if hv i ≤ c ∧ ysW w hv i c < ysW w hv i (c - hv i) + w i then ysW w hv i (c - hv i) + w i else ysW w hv i c)
    split
    · rw [ysS_or (by omega) ((ysB_in i (c - hv i) (by omega)).2 i (Nat.le_refl _)), ysS_W i (c - hv i) (by omega)]
    · exact ysS_W i c (by omega)
theorem ysS_V : ∀ (i : Nat) (c : Int), i ≤ 24 → ysS hv (ysB w hv i c) 24 = ysV w hv i c
  | 0, _, _ => ysS_0 24
  | i + 1, c, hi => by
    show ysS hv (if hv i ≤ c ∧ ysW w hv i c < ysW w hv i (c - hv i) + w i then zi_or (ysB w hv i (c - hv i)) (zi_shl 1 i) else ysB w hv i c) 24 = (if hv i ≤ c ∧ ysW w hv i c < ysW w hv i (c - hv i) + w i then ysV w hv i (c - hv i) + hv i else ysV w hv i c)
    split
    · rw [ysS_or (by omega) ((ysB_in i (c - hv i) (by omega)).2 i (Nat.le_refl _)), ysS_V i (c - hv i) (by omega)]
    · exact ysS_V i c (by omega)
/-- the class: one star is offered -/
theorem ys_offer_l (h : ysR w hv) {i : Nat} (hi : i < 24) {most : Int} (m2 : most ≤ 999) {wg wt : Int → Int} (e1 : wg i = hv i) (e2 : wt i = w i) : ∀ (d : Nat) (x : Int) (A B : Int → Int) (n : Nat), x + 1 ≤ d → -1 ≤ x → x ≤ most → d < n →
    (∀ c, 0 ≤ c → c ≤ x → A c = ysW w hv i c ∧ B c = ysB w hv i c) → (∀ c, x < c → c ≤ most → A c = ysW w hv (i + 1) c ∧ B c = ysB w hv (i + 1) c) →
    ∃ A' B', zf_Chooser_offer_l0 i wg wt n x A B = some (A', B') ∧ ∀ c, 0 ≤ c → c ≤ most → A' c = ysW w hv (i + 1) c ∧ B' c = ysB w hv (i + 1) c := by
  obtain ⟨⟨w1, w2⟩, h1, h2⟩ := h i (by omega) (by omega)
  intro d
  induction d with
  | zero =>
    intro x A B n e x0 x1 hn hA hB
    obtain ⟨n, rfl⟩ : ∃ q, n = q + 1 := ⟨n - 1, by omega⟩
    refine ⟨A, B, ?_, fun c c0 c1 => hB c (by omega) c1⟩
    show zf_Chooser_offer_l0_b i wg wt (zf_Chooser_offer_l0 i wg wt n) x A B = _
    unfold zf_Chooser_offer_l0_b
    rw [zl_ci (by omega) (by omega), e1, if_pos (by omega)]
  | succ d ih =>
    intro x A B n e x0 x1 hn hA hB
    obtain ⟨n, rfl⟩ : ∃ q, n = q + 1 := ⟨n - 1, by omega⟩
    show ∃ A' B', zf_Chooser_offer_l0_b i wg wt (zf_Chooser_offer_l0 i wg wt n) x A B = some (A', B') ∧ _
    unfold zf_Chooser_offer_l0_b
    rw [zl_ci (by omega) (by omega), e1, e2]
    by_cases q : x < hv i
    · rw [if_pos q]
      refine ⟨A, B, rfl, fun c c0 c1 => ?_⟩
      by_cases z : x < c
      · exact hB c z c1
      · obtain ⟨a1, a2⟩ := hA c c0 (by omega)
        rw [a1, a2]
        constructor
        · show _ = (if hv i ≤ c ∧ ysW w hv i c < ysW w hv i (c - hv i) + w i then ysW w hv i (c - hv i) + w i else ysW w hv i c)
          rw [if_neg (fun k => by omega)]
        · show _ = (if hv i ≤ c ∧ ysW w hv i c < ysW w hv i (c - hv i) + w i then zi_or (ysB w hv i (c - hv i)) (zi_shl 1 i) else ysB w hv i c)
          rw [if_neg (fun k => by omega)]
    · obtain ⟨a1, a2⟩ := hA x (by omega) (Int.le_refl _)
      obtain ⟨b1, b2⟩ := hA (x - hv i) (by omega) (by omega)
      have k1 := ysW_in h i (x - hv i) (by omega)
      rw [if_neg q, zi_w_id (x := x - hv i) (by omega) (by omega), zl_ci (by omega) (by omega), zl_ci (by omega) (by omega), a1, b1, b2, zi_w_id (x := ysW w hv i (x - hv i) + w i) (by omega) (by omega), zi_w_id (x := x + -1) (by omega) (by omega)]
      by_cases c : ysW w hv i x < ysW w hv i (x - hv i) + w i
      · rw [if_pos c]
        refine ih (x + -1) _ _ n (by omega) (by omega) (by omega) (by omega) (fun j j0 j1 => ?_) (fun j j0 j1 => ?_)
        · rw [zv_up_n (by omega), zv_up_n (by omega)]; exact hA j j0 (by omega)
        · by_cases z : j = x
          · subst z
            rw [zv_up_s, zv_up_s]
            constructor
            · show _ = (if hv i ≤ j ∧ ysW w hv i j < ysW w hv i (j - hv i) + w i then ysW w hv i (j - hv i) + w i else ysW w hv i j)
              rw [if_pos ⟨by omega, c⟩]
            · show _ = (if hv i ≤ j ∧ ysW w hv i j < ysW w hv i (j - hv i) + w i then zi_or (ysB w hv i (j - hv i)) (zi_shl 1 i) else ysB w hv i j)
              rw [if_pos ⟨by omega, c⟩]
          · rw [zv_up_n z, zv_up_n z]; exact hB j (by omega) j1
      · rw [if_neg c]
        refine ih (x + -1) _ _ n (by omega) (by omega) (by omega) (by omega) (fun j j0 j1 => hA j j0 (by omega)) (fun j j0 j1 => ?_)
        by_cases z : j = x
        · subst z
          rw [a1, a2]
          constructor
          · show _ = (if hv i ≤ j ∧ ysW w hv i j < ysW w hv i (j - hv i) + w i then ysW w hv i (j - hv i) + w i else ysW w hv i j)
            rw [if_neg (fun k => c k.2)]
          · show _ = (if hv i ≤ j ∧ ysW w hv i j < ysW w hv i (j - hv i) + w i then zi_or (ysB w hv i (j - hv i)) (zi_shl 1 i) else ysB w hv i j)
            rw [if_neg (fun k => c k.2)]
        · exact hB j (by omega) j1
theorem ysW_st (h : ysR w hv) {i : Nat} (hi : i < 24) (h0 : w i = 0) (c : Int) : ysW w hv (i + 1) c = ysW w hv i c ∧ ysB w hv (i + 1) c = ysB w hv i c := by
  obtain ⟨-, h1, h2⟩ := h i (by omega) (by omega)
  have m := ysW_mono h i (c - hv i) c (by omega) (by omega)
  constructor
  · show (if hv i ≤ c ∧ ysW w hv i c < ysW w hv i (c - hv i) + w i then ysW w hv i (c - hv i) + w i else ysW w hv i c) = _
    rw [if_neg (fun k => by omega)]
  · show (if hv i ≤ c ∧ ysW w hv i c < ysW w hv i (c - hv i) + w i then zi_or (ysB w hv i (c - hv i)) (zi_shl 1 i) else ysB w hv i c) = _
    rw [if_neg (fun k => by omega)]
theorem ys_best_l (h : ysR w hv) {most t : Int} (m1 : 0 ≤ most) (m2 : most ≤ 999) (ht : ∀ i : Nat, i < 24 → ¬ zb t i = true → w i = 0) {wg wt : Int → Int} (e1 : ∀ i, 0 ≤ i → i < 24 → wg i = hv i) (e2 : ∀ i, 0 ≤ i → i < 24 → wt i = w i) : ∀ (d i : Nat) (A B : Int → Int) (n : Nat), i + d = 24 → d < n →
    (∀ c, 0 ≤ c → c ≤ most → A c = ysW w hv i c ∧ B c = ysB w hv i c) →
    ∃ A' B', zf_Chooser_bestSold_l0 t most wt wg n i A B = some (A', B') ∧ ∀ c, 0 ≤ c → c ≤ most → A' c = ysW w hv 24 c ∧ B' c = ysB w hv 24 c := by
  intro d
  induction d with
  | zero =>
    intro i A B n e hn hA
    obtain ⟨n, rfl⟩ : ∃ q, n = q + 1 := ⟨n - 1, by omega⟩
    obtain rfl : i = 24 := by omega
    refine ⟨A, B, ?_, hA⟩
    show zf_Chooser_bestSold_l0_b t most wt wg (zf_Chooser_bestSold_l0 t most wt wg n) ((24 : Nat) : Int) A B = _
    unfold zf_Chooser_bestSold_l0_b
    rw [if_neg (by decide)]
  | succ d ih =>
    intro i A B n e hn hA
    obtain ⟨n, rfl⟩ : ∃ q, n = q + 1 := ⟨n - 1, by omega⟩
    show ∃ A' B', zf_Chooser_bestSold_l0_b t most wt wg (zf_Chooser_bestSold_l0 t most wt wg n) i A B = some (A', B') ∧ _
    unfold zf_Chooser_bestSold_l0_b
    rw [if_pos (by omega), zi_w_id (x := (i : Int) + 1) (by omega) (by omega), show ((i : Int) + 1) = ((i + 1 : Nat) : Int) by omega, zl_ci (by omega) (by omega), e2 i (by omega) (by omega)]
    have skip : w i = 0 → ∃ A' B', zf_Chooser_bestSold_l0 t most wt wg n ((i + 1 : Nat) : Int) A B = some (A', B') ∧ ∀ c, 0 ≤ c → c ≤ most → A' c = ysW w hv 24 c ∧ B' c = ysB w hv 24 c := fun hw =>
      ih (i + 1) A B n (by omega) (by omega) fun c c0 c1 => by
        obtain ⟨a1, a2⟩ := hA c c0 c1
        obtain ⟨b1, b2⟩ := ysW_st h (by omega : i < 24) hw c
        rw [a1, a2, b1, b2]; exact ⟨rfl, rfl⟩
    by_cases q : zb t i = true
    · rw [zb_bit1 (by omega) (by omega) (by rw [Int.toNat_natCast]; exact q), if_neg (show ¬ (1 : Int) = 0 by decide)]
      by_cases z : 0 < w i
      · rw [if_pos z]
        obtain ⟨A1, B1, e3, h3⟩ := ys_offer_l h (by omega : i < 24) m2 (e1 i (by omega) (by omega)) (e2 i (by omega) (by omega)) 1000 most A B zi_fu (by omega) (by omega) (Int.le_refl _) (by decide) hA (fun c c0 c1 => by omega)
        unfold zf_Chooser_offer
        rw [e3, zl_b, zl_b]
        exact ih (i + 1) A1 B1 n (by omega) (by omega) h3
      · rw [if_neg z]
        have := (h i (by omega) (by omega)).1
        exact skip (by omega)
    · rw [zb_bit0 (by omega) (by omega) (by rw [Int.toNat_natCast]; exact q), if_pos rfl]
      exact skip (ht i (by omega) q)
theorem ze_fill1000_l0 {v : Int} : ∀ (d : Nat) (j : Int) (g : Int → Int) (n : Nat), j + d = 1000 → 0 ≤ j → d < n → ∃ g2, zf_Arrays_fill_1000_l0 v 1000 n j g = some g2 ∧ (∀ i, j ≤ i → i < 1000 → g2 i = v) ∧ ∀ i, i < j → g2 i = g i := by
  intro d
  induction d with
  | zero =>
    intro j g n e _ hn
    obtain ⟨n, rfl⟩ : ∃ q, n = q + 1 := ⟨n - 1, by omega⟩
    refine ⟨g, ?_, fun i _ _ => by omega, fun _ _ => rfl⟩
    show zf_Arrays_fill_1000_l0_b v 1000 (zf_Arrays_fill_1000_l0 v 1000 n) j g = _
    unfold zf_Arrays_fill_1000_l0_b
    rw [if_neg (by omega)]
  | succ d ih =>
    intro j g n e j0 hn
    obtain ⟨n, rfl⟩ : ∃ q, n = q + 1 := ⟨n - 1, by omega⟩
    obtain ⟨g2, e1, a, b⟩ := ih (j + 1) (zv_up g j v) n (by omega) (by omega) (by omega)
    refine ⟨g2, ?_, fun i i1 i2 => ?_, fun i i1 => ?_⟩
    · show zf_Arrays_fill_1000_l0_b v 1000 (zf_Arrays_fill_1000_l0 v 1000 n) j g = _
      unfold zf_Arrays_fill_1000_l0_b
      rw [if_pos (by omega), zl_ci j0 (by omega), zi_w_id (x := j + 1) (by omega) (by omega), e1]
    · by_cases q : i = j
      · subst q
        rw [b i (by omega), zv_up_s]
      · exact a i (by omega) i2
    · rw [b i (by omega), zv_up_n (by omega)]
theorem ys_best (h : ysR w hv) {most t : Int} (m1 : 0 ≤ most) (m2 : most ≤ 999) (ht : ∀ i : Nat, i < 24 → ¬ zb t i = true → w i = 0) {wg wt g0 g1 : Int → Int} (e1 : ∀ i, 0 ≤ i → i < 24 → wg i = hv i) (e2 : ∀ i, 0 ≤ i → i < 24 → wt i = w i) :
    ∃ A' B', zf_Chooser_bestSold t most g0 g1 wt wg = some (ysB w hv 24 most, A', B') := by
  obtain ⟨A, f1, a1, -⟩ := ze_fill1000_l0 (v := 0) 1000 0 g0 zi_fu (by decide) (by decide) (by decide)
  obtain ⟨B, f2, b1, -⟩ := ze_fill1000_l0 (v := 0) 1000 0 g1 zi_fu (by decide) (by decide) (by decide)
  obtain ⟨A', B', e3, h3⟩ := ys_best_l h m1 m2 ht e1 e2 24 0 A B zi_fu rfl (by decide) fun c c0 c1 => ⟨a1 c c0 (by omega), b1 c c0 (by omega)⟩
  refine ⟨A', B', ?_⟩
  unfold zf_Chooser_bestSold zf_Arrays_fill_1000
  rw [f1, zl_b, zl_b, f2, zl_b, zl_b, show zf_Chooser_bestSold_l0 t most wt wg zi_fu 0 A B = _ from e3, zl_b, zl_ci m1 (by omega)]
  dsimp only
  rw [(h3 most m1 (Int.le_refl _)).2]
end YSO
end
section
/-! sold on the reference's side: the table, and the way back. -/
section YSP2
variable {w hv : Int → Int}
theorem ysW_up {i : Nat} {c : Int} : ysW w hv (i + 1) c = (if hv i ≤ c ∧ ysW w hv i c < ysW w hv i (c - hv i) + w i then ysW w hv i (c - hv i) + w i else ysW w hv i c) := rfl
theorem ysm_zero {most : Int} (m2 : most ≤ 999) : ∀ (d : Nat) (c : Int) (G : Int → Int) (n : Nat), most + 1 - c ≤ d → 0 ≤ c → c ≤ most + 1 → d < n → (∀ j, 0 ≤ j → j < c → G j = 0) → ∃ G', zf_M_sold_l1 most n c G = some G' ∧ ∀ j, 0 ≤ j → j ≤ most → G' j = 0 := by
  intro d
  induction d with
  | zero =>
    intro c G n e c0 c1 hn h
    obtain ⟨n, rfl⟩ : ∃ q, n = q + 1 := ⟨n - 1, by omega⟩
    refine ⟨G, ?_, fun j j0 j1 => h j j0 (by omega)⟩
    show zf_M_sold_l1_b most (zf_M_sold_l1 most n) c G = _
    unfold zf_M_sold_l1_b
    rw [if_pos (by omega)]
  | succ d ih =>
    intro c G n e c0 c1 hn h
    obtain ⟨n, rfl⟩ : ∃ q, n = q + 1 := ⟨n - 1, by omega⟩
    show ∃ G', zf_M_sold_l1_b most (zf_M_sold_l1 most n) c G = some G' ∧ _
    unfold zf_M_sold_l1_b
    by_cases q : most < c
    · rw [if_pos q]
      exact ⟨G, rfl, fun j j0 j1 => h j j0 (by omega)⟩
    · rw [if_neg q, zl_ci c0 (by omega), zi_w_id (x := c + 1) (by omega) (by omega)]
      refine ih (c + 1) _ n (by omega) (by omega) (by omega) (by omega) fun j j0 j1 => ?_
      by_cases z : j = c
      · subst z; rw [zv_up_s]
      · rw [zv_up_n z]; exact h j j0 (by omega)
theorem ysm_row (h : ysR w hv) {most t : Int} {m gw gh : Int → Int} (m1 : 0 ≤ most) (m2 : most ≤ 999) (ht : z24 t) (k126 : m 126 = t) (hu : ∀ i : Nat, i < 24 → ¬ zb t i = true → w i = 0) (e1 : ∀ i, 0 ≤ i → i < 24 → gw i = w i) (e2 : ∀ i, 0 ≤ i → i < 24 → gh i = hv i) {i : Nat} (hi : i < 24) : ∀ (d : Nat) (c : Int) (G : Int → Int) (n : Nat), most + 1 - c ≤ d → 0 ≤ c → c ≤ most + 1 → d < n →
    (∀ (r : Nat) j, r ≤ i → 0 ≤ j → j ≤ most → G (1000 * (r : Int) + j) = ysW w hv r j) → (∀ j, 0 ≤ j → j < c → G (1000 * ((i : Int) + 1) + j) = ysW w hv (i + 1) j) →
    ∃ G', zf_M_sold_l3 most i m gw gh n c G = some G' ∧ ∀ (r : Nat) j, r ≤ i + 1 → 0 ≤ j → j ≤ most → G' (1000 * (r : Int) + j) = ysW w hv r j := by
  have tin : 0 ≤ t ∧ t ≤ 2147483647 := ⟨ht.1, by have := ht.2; omega⟩
  obtain ⟨⟨w1, w2⟩, h1, h2⟩ := h i (by omega) (by omega)
  have fin : ∀ G : Int → Int, (∀ (r : Nat) j, r ≤ i → 0 ≤ j → j ≤ most → G (1000 * (r : Int) + j) = ysW w hv r j) → (∀ j, 0 ≤ j → j < most + 1 → G (1000 * ((i : Int) + 1) + j) = ysW w hv (i + 1) j) → ∀ (r : Nat) j, r ≤ i + 1 → 0 ≤ j → j ≤ most → G (1000 * (r : Int) + j) = ysW w hv r j := fun G a b r j r1 j0 j1 => by
    by_cases z : r = i + 1
    · subst z
      rw [show 1000 * ((i + 1 : Nat) : Int) + j = 1000 * ((i : Int) + 1) + j by omega]
      exact b j j0 (by omega)
    · exact a r j (by omega) j0 j1
  intro d
  induction d with
  | zero =>
    intro c G n e c0 c1 hn hA hB
    obtain ⟨n, rfl⟩ : ∃ q, n = q + 1 := ⟨n - 1, by omega⟩
    refine ⟨G, ?_, fin G hA fun j j0 j1 => hB j j0 (by omega)⟩
    show zf_M_sold_l3_b most i m gw gh (zf_M_sold_l3 most i m gw gh n) c G = _
    unfold zf_M_sold_l3_b
    rw [if_pos (by omega)]
  | succ d ih =>
    intro c G n e c0 c1 hn hA hB
    obtain ⟨n, rfl⟩ : ∃ q, n = q + 1 := ⟨n - 1, by omega⟩
    show ∃ G', zf_M_sold_l3_b most i m gw gh (zf_M_sold_l3 most i m gw gh n) c G = some G' ∧ _
    unfold zf_M_sold_l3_b
    by_cases q : most < c
    · rw [if_pos q]
      exact ⟨G, rfl, fin G hA fun j j0 j1 => hB j j0 (by omega)⟩
    rw [if_neg q, zi_w_id (x := 1000 * (i : Int)) (by omega) (by omega), zi_w_id (x := 1000 * (i : Int) + c) (by omega) (by omega), zi_w_id (x := (i : Int) + 1) (by omega) (by omega), zi_w_id (x := 1000 * ((i : Int) + 1)) (by omega) (by omega), zi_w_id (x := 1000 * ((i : Int) + 1) + c) (by omega) (by omega), zi_w_id (x := c + 1) (by omega) (by omega), zl_ci (a := 1000 * (i : Int) + c) (by omega) (by omega), ze_M_isTold (by rw [k126]; exact tin.1) (by rw [k126]; exact tin.2), k126, zl_b, zl_ci (a := (i : Int)) (by omega) (by omega), e2 i (by omega) (by omega), hA i c (Nat.le_refl _) c0 (by omega)]
    have go : ∀ v, v = ysW w hv (i + 1) c → ∃ G', zf_M_sold_l3 most i m gw gh n (c + 1) (zv_up G (1000 * ((i : Int) + 1) + c) v) = some G' ∧ ∀ (r : Nat) j, r ≤ i + 1 → 0 ≤ j → j ≤ most → G' (1000 * (r : Int) + j) = ysW w hv r j := fun v hv1 => by
      refine ih (c + 1) _ n (by omega) (by omega) (by omega) (by omega) (fun r j r1 j0 j1 => ?_) (fun j j0 j1 => ?_)
      · rw [zv_up_n (by omega)]; exact hA r j r1 j0 j1
      · by_cases z : j = c
        · subst z; rw [zv_up_s]; exact hv1
        · rw [zv_up_n (by omega)]; exact hB j j0 (by omega)
    by_cases z : zs_has 24 t i = 0
    · rw [if_pos z, zl_ci (a := 1000 * ((i : Int) + 1) + c) (by omega) (by omega)]
      refine go _ ?_
      have hz : ¬ zb t i = true := fun hh => by
        rw [zs_has1 tin.1 tin.2 (by omega) (by omega) (by rw [Int.toNat_natCast]; exact hh)] at z
        exact absurd z (by decide)
      exact (ysW_st h hi (hu i hi hz) c).1.symm
    · rw [if_neg z]
      by_cases x : c < hv i
      · rw [if_pos x, zl_ci (a := 1000 * ((i : Int) + 1) + c) (by omega) (by omega)]
        refine go _ ?_
        rw [ysW_up, if_neg (fun k => by omega)]
      · have b := hA i (c - hv i) (Nat.le_refl _) (by omega) (by omega)
        have k1 := ysW_in h i (c - hv i) (by omega)
        rw [if_neg x, zi_w_id (x := 1000 * (i : Int) + c - hv i) (by omega) (by omega), zl_ci (by omega) (by omega), show 1000 * (i : Int) + c - hv i = 1000 * (i : Int) + (c - hv i) by omega, b, e1 i (by omega) (by omega), zi_w_id (x := w i + ysW w hv i (c - hv i)) (by omega) (by omega), ze_mm, zl_b, zl_ci (a := 1000 * ((i : Int) + 1) + c) (by omega) (by omega)]
        refine go _ ?_
        rw [ysW_up]
        split <;> split <;> omega
theorem ysm_tab (h : ysR w hv) {most t : Int} {m gw gh : Int → Int} (m1 : 0 ≤ most) (m2 : most ≤ 999) (ht : z24 t) (k126 : m 126 = t) (hu : ∀ i : Nat, i < 24 → ¬ zb t i = true → w i = 0) (e1 : ∀ i, 0 ≤ i → i < 24 → gw i = w i) (e2 : ∀ i, 0 ≤ i → i < 24 → gh i = hv i) : ∀ (d i : Nat) (G : Int → Int) (n : Nat), i + d = 24 → d < n →
    (∀ (r : Nat) j, r ≤ i → 0 ≤ j → j ≤ most → G (1000 * (r : Int) + j) = ysW w hv r j) →
    ∃ G', zf_M_sold_l2 most m gw gh n i G = some G' ∧ ∀ (r : Nat) j, r ≤ 24 → 0 ≤ j → j ≤ most → G' (1000 * (r : Int) + j) = ysW w hv r j := by
  intro d
  induction d with
  | zero =>
    intro i G n e hn hA
    obtain ⟨n, rfl⟩ : ∃ q, n = q + 1 := ⟨n - 1, by omega⟩
    obtain rfl : i = 24 := by omega
    refine ⟨G, ?_, hA⟩
    show zf_M_sold_l2_b most m gw gh (zf_M_sold_l2 most m gw gh n) ((24 : Nat) : Int) G = _
    unfold zf_M_sold_l2_b
    rw [if_neg (by decide)]
  | succ d ih =>
    intro i G n e hn hA
    obtain ⟨n, rfl⟩ : ∃ q, n = q + 1 := ⟨n - 1, by omega⟩
    show ∃ G', zf_M_sold_l2_b most m gw gh (zf_M_sold_l2 most m gw gh n) i G = some G' ∧ _
    unfold zf_M_sold_l2_b
    rw [if_pos (by omega), zi_w_id (x := (i : Int) + 1) (by omega) (by omega), show ((i : Int) + 1) = ((i + 1 : Nat) : Int) by omega]
    obtain ⟨G1, e3, h3⟩ := ysm_row h m1 m2 ht k126 hu e1 e2 (by omega : i < 24) 1000 0 G zi_fu (by omega) (by omega) (by omega) (by decide) hA (fun j j0 j1 => by omega)
    rw [e3, zl_b]
    exact ih (i + 1) G1 n (by omega) (by omega) h3
theorem zi_or_as {a b c : Int} : zi_or (zi_or a b) c = zi_or a (zi_or b c) := by
  unfold zi_or
  refine zi_ev_zb fun j _ => ?_
  show zb (zi_or (zi_or a b) c) j = zb (zi_or a (zi_or b c)) j
  rw [zb_or, zb_or, zb_or, zb_or, Bool.or_assoc]
theorem zi_or_cm {a b : Int} : zi_or a b = zi_or b a := by
  unfold zi_or
  refine zi_ev_zb fun j _ => ?_
  show zb (zi_or a b) j = zb (zi_or b a) j
  rw [zb_or, zb_or, Bool.or_comm]
theorem ysm_back (h : ysR w hv) {most : Int} {G gh : Int → Int} (m2 : most ≤ 999) (hG : ∀ (r : Nat) j, r ≤ 24 → 0 ≤ j → j ≤ most → G (1000 * (r : Int) + j) = ysW w hv r j) (e2 : ∀ i, 0 ≤ i → i < 24 → gh i = hv i) : ∀ (i : Nat) (l s : Int) (n : Nat), i ≤ 24 → 0 ≤ l → l ≤ most → i < n → z24 s →
    zf_M_sold_l4 gh G n l s ((i : Int) - 1) = some (l - ysV w hv i l, zi_or s (ysB w hv i l)) := by
  intro i
  induction i with
  | zero =>
    intro l s n hi l0 l1 hn hs
    obtain ⟨n, rfl⟩ : ∃ q, n = q + 1 := ⟨n - 1, by omega⟩
    show zf_M_sold_l4_b gh G (zf_M_sold_l4 gh G n) l s (((0 : Nat) : Int) - 1) = some (l - 0, zi_or s 0)
    unfold zf_M_sold_l4_b
    rw [if_pos (by decide), show zi_or s 0 = s from z24_ext (z24_or hs z24_0) hs fun j _ => by rw [zb_or, zb_0, Bool.or_false], Int.sub_zero]
  | succ i ih =>
    intro l s n hi l0 l1 hn hs
    obtain ⟨n, rfl⟩ : ∃ q, n = q + 1 := ⟨n - 1, by omega⟩
    obtain ⟨⟨w1, w2⟩, h1, h2⟩ := h i (by omega) (by omega)
    show zf_M_sold_l4_b gh G (zf_M_sold_l4 gh G n) l s (((i + 1 : Nat) : Int) - 1) = some (l - (if hv i ≤ l ∧ ysW w hv i l < ysW w hv i (l - hv i) + w i then ysV w hv i (l - hv i) + hv i else ysV w hv i l), zi_or s (if hv i ≤ l ∧ ysW w hv i l < ysW w hv i (l - hv i) + w i then zi_or (ysB w hv i (l - hv i)) (zi_shl 1 i) else ysB w hv i l))
    unfold zf_M_sold_l4_b
    rw [show (((i + 1 : Nat) : Int) - 1) = (i : Int) by omega, if_neg (by omega), zi_w_id (x := 1000 * (i : Int)) (by omega) (by omega), zi_w_id (x := 1000 * (i : Int) + l) (by omega) (by omega), zi_w_id (x := (i : Int) + 1) (by omega) (by omega), zi_w_id (x := 1000 * ((i : Int) + 1)) (by omega) (by omega), zi_w_id (x := 1000 * ((i : Int) + 1) + l) (by omega) (by omega), zi_w_id (x := (i : Int) + -1) (by omega) (by omega), zl_ci (a := 1000 * (i : Int) + l) (by omega) (by omega), zl_ci (a := 1000 * ((i : Int) + 1) + l) (by omega) (by omega), zl_ci (a := (i : Int)) (by omega) (by omega), e2 i (by omega) (by omega), hG i l (by omega) l0 l1, show 1000 * ((i : Int) + 1) + l = 1000 * ((i + 1 : Nat) : Int) + l by omega, hG (i + 1) l hi l0 l1, ysW_up]
    by_cases q : hv i ≤ l ∧ ysW w hv i l < ysW w hv i (l - hv i) + w i
    · rw [if_pos q, if_pos q, if_pos q, if_neg (by omega), zi_w_id (x := l - hv i) (by omega) (by omega), show (i : Int) + -1 = (i : Int) - 1 by omega, ih (l - hv i) _ n (by omega) (by omega) (by omega) (by omega) (z24_or hs (z24_shl (by omega) (by omega))), zi_or_as, zi_or_cm (a := zi_shl 1 (i : Int)), show l - hv i - ysV w hv i (l - hv i) = l - (ysV w hv i (l - hv i) + hv i) by omega]
    · rw [if_neg q, if_neg q, if_neg q, if_pos rfl, show (i : Int) + -1 = (i : Int) - 1 by omega, ih l s n (by omega) l0 l1 (by omega) hs]
theorem ysx_sum_l {f g : Int → Int} {b : Int} (hb : z24 b) (e : ∀ i, 0 ≤ i → i < 24 → g i = f i) (h : ∀ i, 0 ≤ i → i < 24 → 0 ≤ f i ∧ f i ≤ 999) : ∀ (d i : Nat) (s : Int) (n : Nat), i + d = 24 → d < n → s = ysS f b i → (0 ≤ s ∧ s ≤ 999 * i) →
    zf_Chooser_worthOf_l0 b g n s i = some (ysS f b 24) ∧ zf_Chooser_weightOf_l0 b g n s i = some (ysS f b 24) := by
  intro d
  induction d with
  | zero =>
    intro i s n e0 hn hs hr
    obtain ⟨n, rfl⟩ : ∃ q, n = q + 1 := ⟨n - 1, by omega⟩
    obtain rfl : i = 24 := by omega
    show zf_Chooser_worthOf_l0_b b g (zf_Chooser_worthOf_l0 b g n) s ((24 : Nat) : Int) = _ ∧ zf_Chooser_weightOf_l0_b b g (zf_Chooser_weightOf_l0 b g n) s ((24 : Nat) : Int) = _
    unfold zf_Chooser_worthOf_l0_b zf_Chooser_weightOf_l0_b
    rw [if_neg (by decide), if_neg (by decide), hs]
    exact ⟨rfl, rfl⟩
  | succ d ih =>
    intro i s n e0 hn hs hr
    obtain ⟨n, rfl⟩ : ∃ q, n = q + 1 := ⟨n - 1, by omega⟩
    obtain ⟨f1, f2⟩ := h i (by omega) (by omega)
    show zf_Chooser_worthOf_l0_b b g (zf_Chooser_worthOf_l0 b g n) s i = _ ∧ zf_Chooser_weightOf_l0_b b g (zf_Chooser_weightOf_l0 b g n) s i = _
    unfold zf_Chooser_worthOf_l0_b zf_Chooser_weightOf_l0_b
    rw [if_pos (by omega), if_pos (by omega), zl_ci (by omega) (by omega), zl_ci (by omega) (by omega), e i (by omega) (by omega), zb_bit (by omega) (by omega), Int.toNat_natCast, zi_w_id (x := (i : Int) + 1) (by omega) (by omega), show ((i : Int) + 1) = ((i + 1 : Nat) : Int) by omega]
    have st : ∀ v, v = (if zb b i = true then f i else 0) → (zi_w ((if zb b i = true then (1 : Int) else 0) * f i) = v) := fun v hv => by
      subst hv
      by_cases q : zb b i = true
      · rw [if_pos q, if_pos q, Int.one_mul, zi_w_id (by omega) (by omega)]
      · rw [if_neg q, if_neg q, Int.zero_mul, zi_w_id (by omega) (by omega)]
    rw [st _ rfl]
    have r2 : 0 ≤ (if zb b i = true then f i else 0) ∧ (if zb b i = true then f i else 0) ≤ 999 := by split <;> omega
    have hs2 : s + (if zb b i = true then f i else 0) = ysS f b (i + 1) := by rw [hs]; rfl
    generalize (if zb b i = true then f i else 0) = v at r2 hs2
    rw [zi_w_id (x := s + v) (by omega) (by omega)]
    exact ih (i + 1) _ n (by omega) (by omega) hs2 ⟨by omega, by omega⟩
theorem ysx_sum {f g : Int → Int} {b : Int} (hb : z24 b) (e : ∀ i, 0 ≤ i → i < 24 → g i = f i) (h : ∀ i, 0 ≤ i → i < 24 → 0 ≤ f i ∧ f i ≤ 999) : zf_Chooser_worthOf b g = some (ysS f b 24) ∧ zf_Chooser_weightOf b g = some (ysS f b 24) := by
  obtain ⟨a1, a2⟩ := ysx_sum_l hb e h 24 0 0 zi_fu rfl (by decide) rfl ⟨by decide, by decide⟩
  unfold zf_Chooser_worthOf zf_Chooser_weightOf
  rw [show zf_Chooser_worthOf_l0 b g zi_fu 0 0 = _ from a1, show zf_Chooser_weightOf_l0 b g zi_fu 0 0 = _ from a2]
  exact ⟨rfl, rfl⟩
end YSP2
end
section
/-! sold: what stars are worth and how heavy they are; both sides. -/
theorem yl_amt_in {L : zLW} {k high : Int} {lt : Int → Int} (hh : 0 ≤ high) : 0 ≤ yl_amt L k high lt ∧ yl_amt L k high lt ≤ high := by
  have hc : ∀ r : Option Int, 0 ≤ yl_clm high r ∧ yl_clm high r ≤ high := fun r => by
    cases r with
    | none => exact ⟨Int.le_refl 0, hh⟩
    | some v =>
      show 0 ≤ (if v < 0 then 0 else if high < v then high else v) ∧ (if v < 0 then 0 else if high < v then high else v) ≤ high
      split
      · omega
      · split <;> omega
  have hF : ∀ (n : Nat) (q : Int), 0 ≤ yl_amtF L k high lt n q ∧ yl_amtF L k high lt n q ≤ high := fun n => by
    induction n with
    | zero => intro q; exact ⟨Int.le_refl 0, hh⟩
    | succ n ih =>
      intro q
      show 0 ≤ (if L.2.1 q = k ∧ L.2.2.1 q lt = some 1 then yl_clm high (L.2.2.2 q lt) else yl_amtF L k high lt n (q + 1)) ∧ (if L.2.1 q = k ∧ L.2.2.1 q lt = some 1 then yl_clm high (L.2.2.2 q lt) else yl_amtF L k high lt n (q + 1)) ≤ high
      split
      · exact hc _
      · exact ih (q + 1)
  exact hF _ 0
def ysw (L : zLW) (t h u : Int) (co ro br : Int → Int) (k high : Int) (j : Int) : Int := if zb t j.toNat = true then yl_amt L k high (yv_lt h u j (br j) (ro j) (yv_st h co j) 0 0 0) else 0
section YSX2
variable {L : zLW} {K V kd fr hf to C mk mf mh mt : Int → Int} {nc tS tL sP lP mc : Int} {t h u cl sc sr ch : Int} {co ro br wc wr m : Int → Int}
theorem ysw_R : ysR (ysw L t h u co ro br 119 999) (ysw L t h u co ro br 103 99) := fun i i0 i1 => by
  unfold ysw
  constructor
  · split
    · exact yl_amt_in (by decide)
    · decide
  · split
    · exact yl_amt_in (by decide)
    · decide
theorem ysx_weigh_l (R : yl_R L K V nc tS tL sP lP kd fr hf to mc C mk mf mh mt) (k : yk_sky t h u cl sc sr ch co ro br wc wr m) : ∀ (d : Nat) (i f : Int) (g A B S : Int → Int) (n : Nat), i + d = 24 → 0 ≤ i → d < n → yv_ba h u 0 0 g → g 12 = 0 → (∀ j, 0 ≤ j → j < i → A j = ysw L t h u co ro br 119 999 j ∧ B j = ysw L t h u co ro br 103 99 j) →
    ∃ f' g' A' B' S', zf_Chooser_weighStars_l0 h t nc br ro co kd hf to K V fr n i f g A B S = some (f', g', A', B', S') ∧ ∀ j, 0 ≤ j → j < 24 → A' j = ysw L t h u co ro br 119 999 j ∧ B' j = ysw L t h u co ro br 103 99 j := by
  obtain ⟨⟨ht, k126⟩, ⟨⟨h1, h2⟩, k128⟩, k129, -, -, -, -, ki⟩ := id k
  have tin : 0 ≤ t ∧ t ≤ 2147483647 := ⟨ht.1, by have := ht.2; omega⟩
  intro d
  induction d with
  | zero =>
    intro i f g A B S n e i0 hn hg h12 hA
    obtain ⟨n, rfl⟩ : ∃ q, n = q + 1 := ⟨n - 1, by omega⟩
    refine ⟨f, g, A, B, S, ?_, fun j j0 j1 => hA j j0 (by omega)⟩
    show zf_Chooser_weighStars_l0_b h t nc br ro co kd hf to K V fr (zf_Chooser_weighStars_l0 h t nc br ro co kd hf to K V fr n) i f g A B S = _
    unfold zf_Chooser_weighStars_l0_b
    rw [if_neg (by omega)]
  | succ d ih =>
    intro i f g A B S n e i0 hn hg h12 hA
    obtain ⟨n, rfl⟩ : ∃ q, n = q + 1 := ⟨n - 1, by omega⟩
    obtain ⟨⟨⟨c1, c2⟩, ⟨r1, r2⟩, -⟩, -⟩ := ki i i0 (by omega)
    show ∃ f' g' A' B' S', zf_Chooser_weighStars_l0_b h t nc br ro co kd hf to K V fr (zf_Chooser_weighStars_l0 h t nc br ro co kd hf to K V fr n) i f g A B S = some (f', g', A', B', S') ∧ _
    unfold zf_Chooser_weighStars_l0_b
    rw [if_pos (by omega), zl_ci i0 (by omega), ze_Sky_hasStar tin.1 tin.2, zl_b, zi_w_id (x := i + 1) (by omega) (by omega)]
    have up : ∀ v x y, v = ysw L t h u co ro br 119 999 i → x = ysw L t h u co ro br 103 99 i → ∀ j, 0 ≤ j → j < i + 1 → zv_up (zv_up A i y) i v j = ysw L t h u co ro br 119 999 j ∧ zv_up (zv_up B i y) i x j = ysw L t h u co ro br 103 99 j := fun v x y e1 e2 j j0 j1 => by
      by_cases z : j = i
      · subst z; rw [zv_up_s, zv_up_s]; exact ⟨e1, e2⟩
      · rw [zv_up_n z, zv_up_n z, zv_up_n z, zv_up_n z]; exact hA j j0 (by omega)
    by_cases q : zs_has 24 t i = 0
    · rw [if_pos q]
      have hz : ¬ zb t i.toNat = true := fun hh => by
        rw [zs_has1 tin.1 tin.2 i0 (by omega) hh] at q
        exact absurd q (by decide)
      refine ih (i + 1) _ _ _ _ _ n (by omega) (by omega) (by omega) hg h12 fun j j0 j1 => ?_
      by_cases z : j = i
      · subst z
        rw [zv_up_s, zv_up_s]
        unfold ysw
        rw [if_neg hz, if_neg hz]; exact ⟨rfl, rfl⟩
      · rw [zv_up_n z, zv_up_n z]; exact hA j j0 (by omega)
    · have hz : zb t i.toNat = true := by
        by_cases hh : zb t i.toNat = true
        · exact hh
        · exact absurd (zs_has0 tin.1 tin.2 hh) q
      rw [if_neg q, ze_setStar i0 (by omega) c1 c2 h1 h2, zl_b]
      have hg2 : yv_ba h u 0 0 (zv_up (zv_up (zv_up (zv_up g 2 i) 3 (br i)) 4 (ro i)) 5 (yv_st h co i)) := hg
      have hl := yv_lt_of (i := i) (b := br i) (r := ro i) (c := yv_st h co i) (d := 0) hg2 rfl rfl rfl rfl h12
      obtain ⟨a1, S1, e1⟩ := yl_amtX (lt := zv_up (zv_up (zv_up (zv_up g 2 i) 3 (br i)) 4 (ro i)) 5 (yv_st h co i)) (k := 119) (high := 999) (f1 := f) (S := S) R (.inl rfl) (by decide)
      obtain ⟨a2, S2, e2⟩ := yl_amtX (lt := zv_up (zv_up (zv_up (zv_up g 2 i) 3 (br i)) 4 (ro i)) 5 (yv_st h co i)) (k := 103) (high := 99) (f1 := a1) (S := S1) R (.inr (.inl rfl)) (by decide)
      rw [e1, zl_b, e2, zl_b]
      refine ih (i + 1) _ _ _ _ _ n (by omega) (by omega) (by omega) hg2 h12 (up _ _ _ ?_ ?_)
      · unfold ysw
        rw [if_pos hz]
        exact yl_amt_c R (.inl rfl) hl
      · unfold ysw
        rw [if_pos hz]
        exact yl_amt_c R (.inr (.inl rfl)) hl
theorem ysm_weigh_l (R : yl_R L K V nc tS tL sP lP kd fr hf to mc C mk mf mh mt) (k : yk_sky t h u cl sc sr ch co ro br wc wr m) : ∀ (d : Nat) (i : Int) (g A B S : Int → Int) (n : Nat), i + d = 24 → 0 ≤ i → d < n → (∀ j, 0 ≤ j → j < i → A j = ysw L t h u co ro br 119 999 j ∧ B j = ysw L t h u co ro br 103 99 j) →
    ∃ g' A' B' S', zf_M_sold_l0 mc m mk mh mt C mf n i g A B S = some (g', A', B', S') ∧ ∀ j, 0 ≤ j → j < 24 → A' j = ysw L t h u co ro br 119 999 j ∧ B' j = ysw L t h u co ro br 103 99 j := by
  obtain ⟨⟨ht, k126⟩, ⟨⟨h1, h2⟩, k128⟩, k129, -, -, -, -, ki⟩ := id k
  have tin : 0 ≤ t ∧ t ≤ 2147483647 := ⟨ht.1, by have := ht.2; omega⟩
  intro d
  induction d with
  | zero =>
    intro i g A B S n e i0 hn hA
    obtain ⟨n, rfl⟩ : ∃ q, n = q + 1 := ⟨n - 1, by omega⟩
    refine ⟨g, A, B, S, ?_, fun j j0 j1 => hA j j0 (by omega)⟩
    show zf_M_sold_l0_b mc m mk mh mt C mf (zf_M_sold_l0 mc m mk mh mt C mf n) i g A B S = _
    unfold zf_M_sold_l0_b
    rw [if_neg (by omega)]
  | succ d ih =>
    intro i g A B S n e i0 hn hA
    obtain ⟨n, rfl⟩ : ∃ q, n = q + 1 := ⟨n - 1, by omega⟩
    obtain ⟨-, ⟨⟨c1, c2⟩, -⟩, h3⟩ := ki i i0 (by omega)
    obtain ⟨g2, e0, b0, b1, b2, b3, b4, b5, b6⟩ := ze_M_feelsStar (g := g) (m := m) i0 (by omega) c1 c2 (by rw [k128]; exact h1) (by rw [k128]; exact h2)
    show ∃ g' A' B' S', zf_M_sold_l0_b mc m mk mh mt C mf (zf_M_sold_l0 mc m mk mh mt C mf n) i g A B S = some (g', A', B', S') ∧ _
    unfold zf_M_sold_l0_b
    rw [if_pos (by omega), e0, zl_b, ze_M_isTold (by rw [k126]; exact tin.1) (by rw [k126]; exact tin.2), k126, zl_b, zi_w_id (x := i + 1) (by omega) (by omega)]
    have up : ∀ v x, v = ysw L t h u co ro br 119 999 i → x = ysw L t h u co ro br 103 99 i → ∀ j, 0 ≤ j → j < i + 1 → zv_up A i v j = ysw L t h u co ro br 119 999 j ∧ zv_up B i x j = ysw L t h u co ro br 103 99 j := fun v x e1 e2 j j0 j1 => by
      by_cases z : j = i
      · subst z; rw [zv_up_s, zv_up_s]; exact ⟨e1, e2⟩
      · rw [zv_up_n z, zv_up_n z]; exact hA j j0 (by omega)
    by_cases q : zs_has 24 t i = 0
    · have hz : ¬ zb t i.toNat = true := fun hh => by
        rw [zs_has1 tin.1 tin.2 i0 (by omega) hh] at q
        exact absurd q (by decide)
      rw [if_pos q, zl_ci i0 (by omega), zl_b, if_pos q]
      refine ih (i + 1) _ _ _ _ n (by omega) (by omega) (by omega) (up _ _ ?_ ?_)
      · unfold ysw; rw [if_neg hz]
      · unfold ysw; rw [if_neg hz]
    · have hz : zb t i.toNat = true := by
        by_cases hh : zb t i.toNat = true
        · exact hh
        · exact absurd (zs_has0 tin.1 tin.2 hh) q
      obtain ⟨d0, d1, d2, -, -⟩ := h3 hz
      have hl : ∀ j, 0 ≤ j → j < 13 → g2 j = yv_lt h u i (br i) (ro i) (yv_st h co i) 0 0 0 j := yv_lt_of ⟨by rw [b0, k128], by rw [b1, k129], b6 6 (by decide) (by decide), b6 7 (by decide) (by decide), b6 8 (by decide) (by decide), b6 9 (by decide) (by decide), b6 10 (by decide) (by decide), b6 11 (by decide) (by decide)⟩ b2 (by rw [b3, d2]) (by rw [b4, d1]) (by rw [b5, d0, k128]; rfl) (b6 12 (by decide) (by decide))
      obtain ⟨S1, e1⟩ := yl_amtM (lt := g2) (k := 119) (high := 999) (S := S) R (.inl rfl) (by decide)
      obtain ⟨S2, e2⟩ := yl_amtM (lt := g2) (k := 103) (high := 99) (S := S1) R (.inr (.inl rfl)) (by decide)
      rw [if_neg q, e1, zl_b, zl_ci i0 (by omega), zl_b, if_neg q, e2, zl_b]
      refine ih (i + 1) _ _ _ _ n (by omega) (by omega) (by omega) (up _ _ ?_ ?_)
      · unfold ysw
        rw [if_pos hz]
        exact yl_amt_c R (.inl rfl) hl
      · unfold ysw
        rw [if_pos hz]
        exact yl_amt_c R (.inr (.inl rfl)) hl
theorem yo_sold (R : yl_R L K V nc tS tL sP lP kd fr hf to mc C mk mf mh mt) (k : yk_sky t h u cl sc sr ch co ro br wc wr m) {a b f5 : Int} {g0 g1 g2 g10 g13 g14 q0 q2 q3 q8 q10 : Int → Int} :
    ∃ r f5' g0' g1' g2' g10' g13' g14' q0' q2' q3' q8' q10', zf_X_sold a b h u t nc f5 g0 g1 g2 br ro co kd hf to K g10 V fr g13 g14 = some (r, f5', g0', g1', g2', g10', g13', g14') ∧ zf_M_sold a b mc q0 m q2 q3 mk mh mt C q8 mf q10 = some (r, q0', q2', q3', q8', q10') := by
  obtain ⟨⟨ht, k126⟩, -⟩ := id k
  unfold zf_X_sold zf_M_sold
  rw [ze_X_isWithin, ze_M_in, zl_b, zl_b]
  by_cases x1 : zs_in a 0 999 = 0
  · rw [if_pos x1, if_pos x1]
    exact ⟨_, _, _, _, _, _, _, _, _, _, _, _, _, rfl, rfl⟩
  rw [if_neg x1, if_neg x1, ze_X_isWithin, ze_M_in, zl_b, zl_b]
  by_cases x2 : zs_in b 0 2 = 0
  · rw [if_pos x2, if_pos x2]
    exact ⟨_, _, _, _, _, _, _, _, _, _, _, _, _, rfl, rfl⟩
  rw [if_neg x2, if_neg x2]
  obtain ⟨a0, a1⟩ := zs_in_ne x1
  obtain ⟨b0, b1⟩ := zs_in_ne x2
  obtain ⟨gA, e0, hgA⟩ := ze_forget (g := g0)
  obtain ⟨f', g', A, B, S', e1, hX⟩ := ysx_weigh_l R k 24 0 f5 (zv_up (zv_up gA 0 h) 1 u) g1 g2 g10 zi_fu (by decide) (by decide) (by decide) ⟨rfl, rfl, hgA 6 (by decide) (by decide), hgA 7 (by decide) (by decide), hgA 8 (by decide) (by decide), hgA 9 (by decide) (by decide), hgA 10 (by decide) (by decide), hgA 11 (by decide) (by decide)⟩ (hgA 12 (by decide) (by decide)) (fun j j0 j1 => by omega)
  obtain ⟨p', G, H, S2, e2, hM⟩ := ysm_weigh_l R k 24 0 q0 q2 q3 q8 zi_fu (by decide) (by decide) (by decide) (fun j j0 j1 => by omega)
  have hR := ysw_R (L := L) (t := t) (h := h) (u := u) (co := co) (ro := ro) (br := br)
  have hu : ∀ i : Nat, i < 24 → ¬ zb t i = true → ysw L t h u co ro br 119 999 i = 0 := fun i hi hz => by
    unfold ysw
    rw [Int.toNat_natCast, if_neg hz]
  obtain ⟨BW, BB, e3⟩ := ys_best hR a0 (by omega : a ≤ 999) hu (g0 := g13) (g1 := g14) (fun i i0 i1 => (hX i i0 i1).2) (fun i i0 i1 => (hX i i0 i1).1)
  obtain ⟨Z, e4, hZ⟩ := ysm_zero (most := a) (by omega) 1000 0 q10 zi_fu (by omega) (by decide) (by omega) (by decide) (fun j j0 j1 => by omega)
  obtain ⟨Tb, e5, hT⟩ := ysm_tab hR a0 (by omega : a ≤ 999) ht k126 hu (fun i i0 i1 => (hM i i0 i1).1) (fun i i0 i1 => (hM i i0 i1).2) 24 0 Z zi_fu rfl (by decide) (fun r j r1 j0 j1 => by
    obtain rfl : r = 0 := by omega
    rw [show 1000 * ((0 : Nat) : Int) + j = j by omega]; exact hZ j j0 j1)
  have e6 := ysm_back hR (by omega : a ≤ 999) hT (fun i i0 i1 => (hM i i0 i1).2) 24 a 0 zi_fu (Nat.le_refl _) a0 (Int.le_refl _) (by decide) z24_0
  have hBz := (ysB_in (w := ysw L t h u co ro br 119 999) (hv := ysw L t h u co ro br 103 99) 24 a (Nat.le_refl _)).1
  have hor : zi_or 0 (ysB (ysw L t h u co ro br 119 999) (ysw L t h u co ro br 103 99) 24 a) = ysB (ysw L t h u co ro br 119 999) (ysw L t h u co ro br 103 99) 24 a := z24_ext (z24_or z24_0 hBz) hBz fun j _ => by rw [zb_or, zb_0, Bool.false_or]
  rw [hor] at e6
  unfold zf_Chooser_weighStars zf_Law_setTime
  rw [e0, zl_b, zl_b, e1, zl_b, zl_b]
  dsimp only
  rw [e3, zl_b, e2, zl_b]
  dsimp only
  rw [e4, zl_b, show zf_M_sold_l2 a m G H zi_fu 0 Z = _ from e5, zl_b, show zf_M_sold_l4 H Tb zi_fu a 0 23 = _ from e6, zl_b]
  dsimp only
  by_cases x3 : b = 0
  · rw [if_pos x3, if_pos x3, (ysx_sum hBz (fun i i0 i1 => (hX i i0 i1).1) (fun i i0 i1 => (hR i i0 i1).1)).1, zl_b, ysS_W 24 a (Nat.le_refl _), zi_w_id (x := 24000 + a) (by omega) (by omega), zl_ci (by omega) (by omega), show 24000 + a = 1000 * ((24 : Nat) : Int) + a by omega, hT 24 a (Nat.le_refl _) a0 (Int.le_refl _)]
    exact ⟨_, _, _, _, _, _, _, _, _, _, _, _, _, rfl, rfl⟩
  rw [if_neg x3, if_neg x3]
  by_cases x4 : b = 1
  · rw [if_pos x4, if_pos x4]
    exact ⟨_, _, _, _, _, _, _, _, _, _, _, _, _, rfl, rfl⟩
  · rw [if_neg x4, if_neg x4]
    have hv := ysV_in hR 24 a (Nat.le_refl _) a0
    rw [(ysx_sum hBz (fun i i0 i1 => (hX i i0 i1).2) (fun i i0 i1 => ⟨(hR i i0 i1).2.1, by have := (hR i i0 i1).2.2; omega⟩)).2, zl_b, ysS_V 24 a (Nat.le_refl _)]
    rw [show a - (a - ysV (ysw L t h u co ro br 119 999) (ysw L t h u co ro br 103 99) 24 a) = ysV (ysw L t h u co ro br 119 999) (ysw L t h u co ro br 103 99) 24 a by omega, zi_w_id (by omega) (by omega)]
    exact ⟨_, _, _, _, _, _, _, _, _, _, _, _, _, rfl, rfl⟩
end YSX2
end
section
/-! named: both sides answer. -/
section YWN
variable {L : zLW} {K V kd fr hf to C mk mf mh mt : Int → Int} {nc tS tL sP lP mc : Int} {t h u cl sc sr ch : Int} {co ro br wc wr m : Int → Int} {T M : Int → Int}
theorem yw_pairs {i n : Int} {g : Int → Int} (n0 : 0 ≤ n) (n1 : n ≤ 8) : zh_ok (zf_Chooser_pairsApart i n g) fun _ => True := by
  refine zh_bind (Q := fun _ => True) (zh_loop (F := fun f j (a : Int × Int) => zf_Chooser_pairsApart_l0 i n g f a.1 a.2 j) (N := n) (I := fun _ _ => True) (fun f j a j0 j1 _ kk => ?_) 8 0 (0, 0) zi_fu (by omega) (by decide) n0 (by decide) trivial) fun _ _ => zh_ret trivial
  show zh_ok (zf_Chooser_pairsApart_l0_b i n g (zf_Chooser_pairsApart_l0 i n g f) a.1 a.2 j) _
  unfold zf_Chooser_pairsApart_l0_b
  refine zh_ite (fun hi => ?_) fun _ => zh_ret trivial
  rw [zi_w_id (x := j + 1) (by omega) (by omega)]
  refine zh_bind (Q := fun _ => True) (zh_loop (F := fun f q (a : Int × Int) => zf_Chooser_pairsApart_l1 i j g f a.1 a.2 q) (N := j) (I := fun _ _ => True) (fun f q a q0 q1 _ k2 => ?_) 8 0 (a.1, a.2) zi_fu (by omega) (by decide) j0 (by decide) trivial) fun o _ => kk (_, _) hi trivial
  show zh_ok (zf_Chooser_pairsApart_l1_b i j g (zf_Chooser_pairsApart_l1 i j g f) a.1 a.2 q) _
  unfold zf_Chooser_pairsApart_l1_b
  refine zh_ite (fun hq => ?_) fun _ => zh_ret trivial
  rw [zi_w_id (x := q + 1) (by omega) (by omega)]
  have k3 : ∀ x y, zh_ok (zf_Chooser_pairsApart_l1 i j g f x y (q + 1)) _ := fun x y => k2 (x, y) hq trivial
  exact zh_cond (zi_ix_of j0 (by omega)) (zh_cond (zi_ix_of q0 (by omega)) (zh_ite (fun _ => k3 _ _) fun _ => k3 _ _))
theorem yw_cover {g0 g1 : Int → Int} : ∀ (n w : Nat) (x1 x2 x3 : Int), x1 < n → x1 ≤ 100 → 0 < n → zh_ok (zg_Chooser_leastCover n w x1 x2 x3 g0 g1) fun _ => True := by
  intro n
  induction n with
  | zero => intro w x1 x2 x3 h h2 h3; omega
  | succ n ih =>
    intro w x1 x2 x3 h h2 h3
    show zh_ok (zm_Chooser_leastCover (zg_Chooser_leastCover n) x1 x2 x3 g0 g1) _
    unfold zm_Chooser_leastCover
    refine zh_ite (fun hx => ?_) fun _ => zh_ite (fun _ => zh_ret trivial) fun _ => zh_ret trivial
    refine zh_sum (Q := fun _ => True) (zh_loop (F := fun f i (_ : Unit) => zm_Chooser_leastCover_l0 (zg_Chooser_leastCover n) x1 x2 x3 g0 g1 f i) (N := 24) (I := fun _ _ => True) (fun f i a i0 i1 _ kk => ?_) 24 0 () zi_fu (by decide) (by decide) (by decide) (by decide) trivial) (fun _ _ => zh_ret trivial) fun _ _ => zh_ret trivial
    show zh_ok (zm_Chooser_leastCover_l0_b (zg_Chooser_leastCover n) x1 x2 x3 g0 g1 (zm_Chooser_leastCover_l0 (zg_Chooser_leastCover n) x1 x2 x3 g0 g1 f) i) _
    unfold zm_Chooser_leastCover_l0_b
    refine zh_ite (fun _ => zh_ite (fun hi => ?_) fun _ => zh_ret trivial) fun _ => zh_ret trivial
    rw [zi_w_id (x := i + 1) (by omega) (by omega), zi_w_id (x := x1 - 1) (by omega) (by omega)]
    exact zh_cond (zi_ix_of i0 (by omega)) (zh_ite (fun _ => kk () hi trivial) fun _ => zh_ite (fun _ => zh_bind (ih 0 (x1 - 1) _ _ (by omega) (by omega) (by omega)) fun r _ => zh_ite (fun _ => kk () hi trivial) fun _ => zh_ret trivial) fun _ => kk () hi trivial)
theorem yw_fewN {n : Int} {g0 g1 g2 : Int → Int} (n0 : 0 ≤ n) (n1 : n ≤ 8) : zh_ok (zf_Chooser_fewestNamed n g0 g1 g2) fun _ => True := by
  unfold zf_Chooser_fewestNamed
  rw [ze_Math_min, zl_b, show (if 8 < n then (8 : Int) else n) = n from if_neg (by omega)]
  refine zh_bind (Q := fun _ => True) (zh_loop (F := fun f i (a : Int × (Int → Int) × (Int → Int)) => zf_Chooser_fewestNamed_l0 n g1 f a.1 i a.2.1 a.2.2) (N := 24) (I := fun _ _ => True) (fun f i a i0 i1 _ kk => ?_) 24 0 (0, g0, g2) zi_fu (by decide) (by decide) (by decide) (by decide) trivial) fun q10 _ => zh_bind zh_bc fun r11 _ => zh_ite (fun _ => zh_sum (Q := fun _ => True) (zh_loop (F := fun f i (_ : Unit) => zf_Chooser_fewestNamed_l2 n q10.1 q10.2.1 q10.2.2 f i) (N := 9) (I := fun _ _ => True) (fun f i a i0 i1 _ kk => ?_) 9 1 () zi_fu (by decide) (by decide) (by decide) (by decide) trivial) (fun _ _ => zh_ret trivial) fun _ _ => zh_ret trivial) fun _ => zh_ret trivial
  · show zh_ok (zf_Chooser_fewestNamed_l0_b n g1 (zf_Chooser_fewestNamed_l0 n g1 f) a.1 i a.2.1 a.2.2) _
    unfold zf_Chooser_fewestNamed_l0_b
    refine zh_ite (fun hi => ?_) fun _ => zh_ret trivial
    rw [zi_w_id (x := i + 1) (by omega) (by omega)]
    refine zh_bind (yw_pairs n0 n1) fun r3 _ => zh_cond (zi_ix_of i0 (by omega)) (zh_bind (Q := fun _ => True) (zh_loop (F := fun f j (a : Int → Int) => zf_Chooser_fewestNamed_l1 i f j a) (N := i) (I := fun _ _ => True) (fun f j a j0 j1 _ k2 => ?_) 24 0 _ zi_fu (by omega) (by decide) i0 (by decide) trivial) fun q9 _ => kk (_, _, _) hi trivial)
    show zh_ok (zf_Chooser_fewestNamed_l1_b i (zf_Chooser_fewestNamed_l1 i f) j a) _
    unfold zf_Chooser_fewestNamed_l1_b
    refine zh_ite (fun hj => ?_) fun _ => zh_ret trivial
    rw [zi_w_id (x := j + 1) (by omega) (by omega)]
    exact zh_cond (zi_ix_of j0 (by omega)) (zh_cond (zi_ix_of i0 (by omega)) (zh_ite (fun _ => k2 _ hj trivial) fun _ => k2 _ hj trivial))
  · show zh_ok (zf_Chooser_fewestNamed_l2_b n q10.1 q10.2.1 q10.2.2 (zf_Chooser_fewestNamed_l2 n q10.1 q10.2.1 q10.2.2 f) i) _
    unfold zf_Chooser_fewestNamed_l2_b
    refine zh_ite (fun hi => ?_) fun _ => zh_ret trivial
    rw [zi_w_id (x := i + 1) (by omega) (by omega)]
    exact zh_bind (yw_cover 9 0 i 24 _ (by omega) (by omega) (by decide)) fun r14 _ => zh_ite (fun _ => kk () (by omega) trivial) fun _ => zh_ret trivial
theorem yw_namedX (R : yl_R L K V nc tS tL sP lP kd fr hf to mc C mk mf mh mt) (k : yk_sky t h u cl sc sr ch co ro br wc wr m) (hT : yk_T T M) {a w n f4 f5 f6 f9 f15 f17 : Int} {g0 g2 g10 g12 g13 g14 : Int → Int} :
    zh_ok (zf_X_named a w n f4 f5 f6 h u f9 t sc sr cl tS f15 nc f17 sP g0 T g2 co ro br kd hf to K g10 V g12 g13 g14) fun o => o.2.1 = if zs_in a 2 8 = 0 then n else if zs_in w 0 1 = 0 then n else if n < 2 * a then n else 0 := by
  unfold zf_X_named
  rw [ze_X_isWithin, zl_b]
  refine zh_ite (fun q => zh_ret (by rw [if_pos q])) fun q => ?_
  rw [if_neg q, ze_X_isWithin, zl_b]
  obtain ⟨a1, a2⟩ := zs_in_ne q
  refine zh_ite (fun q2 => zh_ret (by rw [if_pos q2])) fun q2 => ?_
  rw [if_neg q2, zi_w_id (x := 2 * a) (by omega) (by omega)]
  unfold zf_Tape_take
  by_cases c : n < 2 * a
  · rw [if_pos c, zl_b, if_pos rfl, if_pos c]
    exact zh_ret rfl
  rw [if_neg c, zl_b, if_neg (show ¬ (1 : Int) = 0 by decide), if_neg c]
  obtain ⟨g0', e0, h0⟩ := ze_open (f := f4) (g := g0)
  rw [e0, zl_b]
  dsimp only
  refine zh_sum (Q := fun q => match q with
    | .inl _ => True
    | .inr b => b.2.1 = 0) (zh_loop (F := fun n i (b : Int × Int × Int × Int × Int × Int × (Int → Int) × (Int → Int) × (Int → Int)) => zf_X_named_l0 a 0 h u t sc sr cl tS nc sP g0' T co ro br kd hf to K V g13 g14 n i b.1 b.2.1 b.2.2.1 b.2.2.2.1 b.2.2.2.2.1 b.2.2.2.2.2.1 b.2.2.2.2.2.2.1 b.2.2.2.2.2.2.2.1 b.2.2.2.2.2.2.2.2) (N := a)
      (I := fun _ b => yv_ca L sP h u co ro br b.1 b.2.2.2.2.1) (fun n i b i0 i1 hb kk => ?_) 8 0 (0, f5, f6, f9, f15, f17, g2, g10, g12) zi_fu (by omega) (by decide) (by omega) (by decide) yv_ca0) (fun b _ => zh_bind (yw_fewN (by omega) (by omega)) fun r _ => zh_ite (fun _ => zh_ret rfl) fun _ => zh_ite (fun _ => zh_bind zh_bc fun _ _ => zh_ret rfl) fun _ => zh_ret rfl) fun b hb => zh_ret hb
  obtain ⟨b1, b2, b3, b4, b5, b6, b7, b8, b9⟩ := b
  have hb : yv_ca L sP h u co ro br b1 b5 := hb
  show zh_ok (zf_X_named_l0_b a 0 h u t sc sr cl tS nc sP g0' T co ro br kd hf to K V g13 g14 (zf_X_named_l0 a 0 h u t sc sr cl tS nc sP g0' T co ro br kd hf to K V g13 g14 n) i b1 b2 b3 b4 b5 b6 b7 b8 b9) _
  unfold zf_X_named_l0_b
  refine zh_ite (fun hi => ?_) fun _ => zh_ret trivial
  rw [zi_w_id (x := 2 * i) (by omega) (by omega), zi_w_id (x := 2 * i + 1) (by omega) (by omega), zi_w_id (x := i + 1) (by omega) (by omega), ze_byteAt (by omega) (by omega), zl_b, ze_byteAt (by omega) (by omega), zl_b, ze_X_isPlace, zl_b]
  refine zh_ite (fun _ => zh_ret rfl) fun q3 => ?_
  obtain ⟨x1, x2, y1, y2⟩ := zs_pl_ne q3
  obtain ⟨s', as', ho', a', g', S', e1, -, c1⟩ := yx_look (f2 := b2) (f3 := b3) (f6 := b4) (f := b6) (g := b7) (S := b8) (x := T (2 * i)) (y := T (2 * i + 1)) R k x1 (by omega) y1 (by omega) hb
  rw [e1, zl_b]
  dsimp only
  have k2 : ∀ d1 d2 d3 d4 d5 d6 d7 d8 d9, yv_ca L sP h u co ro br d1 d5 → zh_ok (zf_X_named_l0 a 0 h u t sc sr cl tS nc sP g0' T co ro br kd hf to K V g13 g14 n (i + 1) d1 d2 d3 d4 d5 d6 d7 d8 d9) _ := fun d1 d2 d3 d4 d5 d6 d7 d8 d9 q => kk (d1, d2, d3, d4, d5, d6, d7, d8, d9) hi q
  exact zh_cond (zi_ix_of i0 (by omega)) (k2 _ _ _ _ _ _ _ _ _ c1)
theorem yw_apart {s f : Int} {g : Int → Int} (f1 : f ≤ 28) : zh_ok (zf_M_tellsApart s f g) fun _ => True := by
  unfold zf_M_tellsApart
  refine zh_sum (Q := fun _ => True) (zh_loop (F := fun n i (_ : Unit) => zf_M_tellsApart_l0 s f g n i) (N := 28) (I := fun _ _ => True) (fun n i a i0 i1 _ kk => ?_) 28 0 () zi_fu (by decide) (by decide) (by decide) (by decide) trivial) (fun _ _ => zh_ret trivial) fun _ _ => zh_ret trivial
  show zh_ok (zf_M_tellsApart_l0_b s f g (zf_M_tellsApart_l0 s f g n) i) _
  unfold zf_M_tellsApart_l0_b
  refine zh_ite (fun hi => ?_) fun _ => zh_ret trivial
  rw [zi_w_id (x := i + 1) (by omega) (by omega)]
  exact zh_cond (zi_ix_of i0 (by omega)) (zh_ite (fun _ => zh_ret trivial) fun _ => kk () (by omega) trivial)
theorem yw_leastOf {q f : Int} {g0 g1 : Int → Int} (q1 : 1 ≤ q) (q2 : q ≤ 7) (f1 : f ≤ 28) : zh_ok (zf_M_leastOf q f g0 g1) fun _ => True := by
  unfold zf_M_leastOf
  have hst : 0 < zi_w (zi_shl 1 q - 1) := by
    have : ∀ q : Nat, q < 8 → 1 ≤ q → 0 < zi_w (zi_shl 1 (q : Int) - 1) := by decide +kernel
    have h := this q.toNat (by omega) (by omega)
    rwa [Int.toNat_of_nonneg (by omega)] at h
  refine zh_sum (Q := fun _ => True) (zh_loop2 (F := fun n (a : Int) => zf_M_leastOf_l0 f g0 g1 n a) (μ := fun a => (16777216 - a).toNat) (I := fun a => 0 < a) (fun n a ha kk => ?_) 16777216 _ zi_fu (by omega) (by decide) hst) (fun _ _ => zh_ret trivial) fun _ _ => zh_ret trivial
  show zh_ok (zf_M_leastOf_l0_b f g0 g1 (zf_M_leastOf_l0 f g0 g1 n) a) _
  unfold zf_M_leastOf_l0_b
  refine zh_ite (fun hi => zh_ite (fun _ => zh_bind (yw_apart f1) fun r5 _ => zh_ite (fun _ => ?_) fun _ => zh_ret trivial) fun _ => ?_) fun _ => zh_ret trivial
  · exact zw_gos ha hi fun v v1 v2 => kk v (by omega) (by omega)
  · exact zw_gos ha hi fun v v1 v2 => kk v (by omega) (by omega)
theorem yw_places {n : Int} {g : Int → Int} (hT : yk_T T M) (n0 : 0 ≤ n) (n1 : n ≤ 8) : zh_ok (zf_M_takesPlaces n M g) fun o => o.1 = 0 ∨ ∀ j, 0 ≤ j → j < n → 0 ≤ o.2 j ∧ o.2 j < 288 := by
  unfold zf_M_takesPlaces
  refine zh_sum (Q := fun q => match q with
    | .inl a => ∀ j, 0 ≤ j → j < n → 0 ≤ a j ∧ a j < 288
    | .inr b => b.1 = 0) (zh_loop (F := fun f i (a : Int → Int) => zf_M_takesPlaces_l0 n M f i a) (N := n) (I := fun i a => ∀ j, 0 ≤ j → j < i → 0 ≤ a j ∧ a j < 288) (fun f i a i0 i1 ha kk => ?_) 8 0 g zi_fu (by omega) (by decide) n0 (by decide) (fun j j0 j1 => by omega)) (fun a ha => zh_ret (.inr ha)) fun b hb => zh_ret (.inl hb)
  show zh_ok (zf_M_takesPlaces_l0_b n M (zf_M_takesPlaces_l0 n M f) i a) _
  unfold zf_M_takesPlaces_l0_b
  refine zh_ite (fun hi => ?_) fun hi => ?_
  rotate_left
  · obtain rfl : i = n := by omega
    exact zh_ret ha
  obtain ⟨T1, -, -⟩ := hT (2 * i) (by omega) (by omega)
  obtain ⟨T2, -, -⟩ := hT (2 * i + 1) (by omega) (by omega)
  rw [zi_w_id (x := 2 * i) (by omega) (by omega), zi_w_id (x := 2 * i + 1) (by omega) (by omega), zi_w_id (x := i + 1) (by omega) (by omega), T1, T2, ze_M_isPlace, zl_b]
  refine zh_cond (zi_ix_of (by omega) (by omega)) (zh_cond (zi_ix_of (by omega) (by omega)) (zh_ite (fun _ => zh_ret rfl) fun q3 => ?_))
  obtain ⟨x1, x2, y1, y2⟩ := zs_pl_ne q3
  rw [zi_w_id (x := 24 * T (2 * i + 1)) (by omega) (by omega), zi_w_id (x := 24 * T (2 * i + 1) + T (2 * i)) (by omega) (by omega)]
  refine zh_cond (zi_ix_of i0 (by omega)) (zh_sum (Q := fun q => match q with
    | .inl _ => True
    | .inr b => b.1 = 0) (zh_loop (F := fun f j (_ : Unit) => zf_M_takesPlaces_l1 i (zv_up a i (24 * T (2 * i + 1) + T (2 * i))) f j) (N := i) (I := fun _ _ => True) (fun f j _ j0 j1 _ k2 => ?_) 8 0 () zi_fu (by omega) (by decide) i0 (by decide) trivial) (fun _ _ => kk _ hi fun j j0 j1 => ?_) fun b hb => zh_ret hb)
  · show zh_ok (zf_M_takesPlaces_l1_b i (zv_up a i (24 * T (2 * i + 1) + T (2 * i))) (zf_M_takesPlaces_l1 i (zv_up a i (24 * T (2 * i + 1) + T (2 * i))) f) j) _
    unfold zf_M_takesPlaces_l1_b
    refine zh_ite (fun hj => ?_) fun _ => zh_ret trivial
    rw [zi_w_id (x := j + 1) (by omega) (by omega)]
    exact zh_cond (zi_ix_of j0 (by omega)) (zh_cond (zi_ix_of i0 (by omega)) (zh_ite (fun _ => zh_ret rfl) fun _ => k2 () hj trivial))
  · by_cases z : j = i
    · subst z; rw [zv_up_s]; omega
    · rw [zv_up_n z]; exact ha j j0 (by omega)
theorem yw_namedM (R : yl_R L K V nc tS tL sP lP kd fr hf to mc C mk mf mh mt) (k : yk_sky t h u cl sc sr ch co ro br wc wr m) (hT : yk_T T M) {a w n f1 : Int} {g1 g2 g5 g9 : Int → Int} :
    zh_ok (zf_M_named a w n f1 mc M g1 g2 m mk g5 mh mt C g9) fun o => o.2.1 = if zs_in a 2 8 = 0 then n else if zs_in w 0 1 = 0 then n else if n < 2 * a then n else 0 := by
  unfold zf_M_named
  rw [ze_M_in, zl_b]
  refine zh_ite (fun q => zh_ret (by rw [if_pos q])) fun q => ?_
  rw [if_neg q, ze_M_in, zl_b]
  obtain ⟨a1, a2⟩ := zs_in_ne q
  refine zh_ite (fun q2 => zh_ret (by rw [if_pos q2])) fun q2 => ?_
  rw [if_neg q2, zi_w_id (x := 2 * a) (by omega) (by omega)]
  refine zh_ite (fun c => zh_ret (by rw [if_pos c])) fun c => ?_
  rw [if_neg c]
  refine zh_bind (yw_places hT (by omega) (by omega)) fun r6 h6 => zh_ite (fun _ => zh_ret rfl) fun hne => ?_
  have h6 := h6.resolve_left hne
  refine zh_sum (Q := fun q => match q with
    | .inl b => b.1 ≤ 28
    | .inr b => b.2.1 = 0) (zh_loop (F := fun f i (b : Int × (Int → Int) × (Int → Int) × (Int → Int)) => zf_M_named_l0 a 0 mc r6.2 m mk mh mt C f i b.1 b.2.1 b.2.2.1 b.2.2.2) (N := a) (I := fun i b => 0 ≤ b.1 ∧ 2 * b.1 ≤ i * (15 - i)) (fun f i b i0 i1 hb kk => ?_) 8 0 (0, g2, g5, g9) zi_fu (by omega) (by decide) (by omega) (by decide) ⟨Int.le_refl 0, Int.le_refl 0⟩) (fun b hb => ?_) fun b hb => zh_ret hb
  · obtain ⟨b1, b2, b3, b4⟩ := b
    obtain ⟨hb0, hb⟩ := hb
    have hb0 : 0 ≤ b1 := hb0
    have hb : 2 * b1 ≤ i * (15 - i) := hb
    show zh_ok (zf_M_named_l0_b a 0 mc r6.2 m mk mh mt C (zf_M_named_l0 a 0 mc r6.2 m mk mh mt C f) i b1 b2 b3 b4) _
    unfold zf_M_named_l0_b
    have hcs : i = 0 ∨ i = 1 ∨ i = 2 ∨ i = 3 ∨ i = 4 ∨ i = 5 ∨ i = 6 ∨ i = 7 ∨ i = 8 := by omega
    refine zh_ite (fun hi => ?_) fun hi => ?_
    rotate_left
    · refine zh_ret ?_
      show b1 ≤ 28
      rcases hcs with e | e | e | e | e | e | e | e | e <;> subst e <;> omega
    obtain ⟨c2, hc2⟩ : ∃ c, c = i * (15 - i) := ⟨_, rfl⟩
    have hc3 : c2 + 2 * (7 - i) ≤ 56 := by
      rcases hcs with e | e | e | e | e | e | e | e | e <;> subst e <;> omega
    have hc4 : (i + 1) * (15 - (i + 1)) = c2 + 14 - 2 * i := by
      rcases hcs with e | e | e | e | e | e | e | e | e <;> subst e <;> omega
    rw [← hc2] at hb
    rw [zi_w_id (x := i + 1) (by omega) (by omega)]
    refine zh_sum (Q := fun q => match q with
      | .inl b => 0 ≤ b.1 ∧ 2 * b.1 ≤ c2 + 14 - 2 * i
      | .inr b => b.2.1 = 0) (zh_loop (F := fun f j (b : Int × (Int → Int) × (Int → Int) × (Int → Int)) => zf_M_named_l1 a i 0 mc r6.2 m mk mh mt C f j b.1 b.2.1 b.2.2.1 b.2.2.2) (N := a) (I := fun j b => i < j ∧ 0 ≤ b.1 ∧ 2 * b.1 ≤ c2 + 2 * (j - i - 1)) (fun f j b j0 j1 hb kk2 => ?_) 8 (i + 1) (b1, b2, b3, b4) zi_fu (by omega) (by omega) (by omega) (by decide) ⟨by omega, hb0, by show 2 * b1 ≤ c2 + 2 * (i + 1 - i - 1); omega⟩) (fun b hb => kk (b.1, b.2.1, b.2.2.1, b.2.2.2) hi ⟨hb.1, by show 2 * b.1 ≤ (i + 1) * (15 - (i + 1)); rw [hc4]; exact hb.2⟩) fun b hb => zh_ret hb
    obtain ⟨d1, d2, d3, d4⟩ := b
    obtain ⟨hd, hd0, hd1⟩ := hb
    have hd0 : 0 ≤ d1 := hd0
    have hd1 : 2 * d1 ≤ c2 + 2 * (j - i - 1) := hd1
    show zh_ok (zf_M_named_l1_b a i 0 mc r6.2 m mk mh mt C (zf_M_named_l1 a i 0 mc r6.2 m mk mh mt C f) j d1 d2 d3 d4) _
    unfold zf_M_named_l1_b
    refine zh_ite (fun hj => ?_) fun hj => zh_ret ⟨hd0, by show 2 * d1 ≤ c2 + 14 - 2 * i; omega⟩
    obtain ⟨p1, p2⟩ := h6 i i0 hi
    obtain ⟨q1, q2⟩ := h6 j (by omega) hj
    obtain ⟨s', g', S', e1, -⟩ := ym_seen (g := d3) (S := d4) R k p1 p2
    obtain ⟨s2, g3, S3, e2, -⟩ := ym_seen (g := g') (S := S') R k q1 q2
    rw [zl_ci i0 (by omega), e1, zl_b]
    dsimp only
    rw [zl_ci (a := j) (by omega) (by omega), e2, zl_b, zi_w_id (x := j + 1) (by omega) (by omega), zi_w_id (x := d1 + 1) (by omega) (by omega)]
    exact zh_cond (zi_ix_of hd0 (by omega)) (zh_ite (fun _ => zh_ret rfl) fun _ => kk2 (_, _, _, _) hj ⟨by omega, by show 0 ≤ d1 + 1; omega, by show 2 * (d1 + 1) ≤ c2 + 2 * (j + 1 - i - 1); omega⟩)
  · obtain ⟨b1, b2, b3, b4⟩ := b
    have hb : b1 ≤ 28 := hb
    refine zh_sum (Q := fun q => match q with
      | .inl _ => True
      | .inr b => b.2.1 = 0) (zh_loop (F := fun f i (_ : Unit) => zf_M_named_l2 a w 0 b1 r6.2 b2 m b3 b4 f i) (N := a) (I := fun i _ => 1 ≤ i) (fun f i _ i0 i1 hi1 kk => ?_) 8 1 () zi_fu (by omega) (by decide) (by omega) (by decide) (by decide)) (fun _ _ => zh_ret rfl) fun b hb => zh_ret hb
    show zh_ok (zf_M_named_l2_b a w 0 b1 r6.2 b2 m b3 b4 (zf_M_named_l2 a w 0 b1 r6.2 b2 m b3 b4 f) i) _
    unfold zf_M_named_l2_b
    refine zh_ite (fun hi => ?_) fun _ => zh_ret trivial
    rw [zi_w_id (x := i + 1) (by omega) (by omega)]
    exact zh_bind (yw_leastOf hi1 (by omega) hb) fun r22 _ => zh_ite (fun _ => kk () hi (by omega)) fun _ => zh_ite (fun _ => zh_ret rfl) fun _ => zh_ret rfl
end YWN
end
section
/-! fastest, byTwo: both sides answer. -/
section YWS
variable {L : zLW} {K V kd fr hf to C mk mf mh mt : Int → Int} {nc tS tL sP lP mc : Int} {t h u cl sc sr ch ts p i s : Int} {co ro br wc wr m gp gl : Int → Int}
def yw_rg (N : Int) (g : Int → Int) : Prop := ∀ j, 0 ≤ j → j < N → 0 ≤ g j ∧ g j < 288
theorem yw_rg_up {N k v : Int} {g : Int → Int} (h : yw_rg N g) (v0 : 0 ≤ v) (v1 : v < 288) : yw_rg N (zv_up g k v) := fun j j0 j1 => by
  by_cases e : j = k
  · subst e; rw [zv_up_s]; exact ⟨v0, v1⟩
  · rw [zv_up_n e]; exact h j j0 j1
def yw_mo (t cl sc sr ch ts : Int) (br wc wr gl m : Int → Int) : Prop := ∃ h u co ro gp, yk_sky t h u cl sc sr ch co ro br wc wr m ∧ yk_sea ts gp gl m
theorem yw_mo_cg {m2 : Int → Int} (h : yw_mo t cl sc sr ch ts br wc wr gl m) (e : ∀ j, 0 ≤ j → j < 422 → m2 j = m j) : yw_mo t cl sc sr ch ts br wc wr gl m2 := by
  obtain ⟨h, u, co, ro, gp, k, z⟩ := h
  exact ⟨h, u, co, ro, gp, yk_sky_cg k (fun _ _ _ => rfl) (fun _ _ _ => rfl) (fun _ _ _ => rfl) (fun _ _ _ => rfl) (fun _ _ _ => rfl) e, yk_sea_cg z (fun _ _ _ => rfl) (fun _ _ _ => rfl) e⟩
theorem ym_steer (R : yl_R L K V nc tS tL sP lP kd fr hf to mc C mk mf mh mt) (hm : yw_mo t cl sc sr ch ts br wc wr gl m) (s0 : 0 ≤ s) (s1 : s < 6) (i1 : 0 ≤ i) (i2 : i < 24) (hti : zb t i.toNat = true) {g S : Int → Int} :
    zh_ok (zf_M_steers s i 0 mc m mk g mh mt C S mf) fun o => yw_mo t cl sc sr ch ts br wc wr gl o.1 := by
  obtain ⟨h, u, co, ro, gp, k, z⟩ := hm
  obtain ⟨p1, p2⟩ := z.2 s s0 s1
  obtain ⟨-, -, -, -, -, -, -, ki⟩ := id k
  obtain ⟨⟨-, ⟨r1, r2⟩, -⟩, -, -⟩ := ki i i1 i2
  obtain ⟨g', S', e1⟩ := ym_steersFrom (g := g) (S := S) R k z p1 p2 i1 i2 hti
  have hq : 0 ≤ (if yv_see L tS h u cl sc sr co ro br (gp s % 24) (gp s / 24) i = true then yg_st gl (gp s) (yg_tr (gp s % 24) (yv_st h co i)) (ro i - gp s / 24) else gp s) ∧ (if yv_see L tS h u cl sc sr co ro br (gp s % 24) (gp s / 24) i = true then yg_st gl (gp s) (yg_tr (gp s % 24) (yv_st h co i)) (ro i - gp s / 24) else gp s) < 288 := by
    split
    · exact yg_st_in p1 p2 (by omega) (by omega)
    · exact ⟨p1, p2⟩
  generalize (if yv_see L tS h u cl sc sr co ro br (gp s % 24) (gp s / 24) i = true then yg_st gl (gp s) (yg_tr (gp s % 24) (yv_st h co i)) (ro i - gp s / 24) else gp s) = q at e1 hq
  have z2 := yk_sea_up z s0 s1 hq.1 hq.2
  have k2 : yk_sky t h u cl sc sr ch co ro br wc wr (zv_up m (120 + s) q) := yk_sky_fr k fun j hj => zv_up_n (by omega)
  obtain ⟨h', u', co', ro', m', e2, e3, k3, e4⟩ := yk_pass k2
  have z3 : yk_sea ts (zv_up gp s q) gl m' := yk_sea_fr z2 fun j hj => e4 j (by omega) (by omega) (by omega)
  unfold zf_M_steers
  rw [if_pos rfl, zi_w_id (x := 120 + s) (by omega) (by omega), zl_ci (by omega) (by omega), z.1.2.2.2.1 s s0 s1, e1, zl_b]
  dsimp only
  rw [e3, zl_b]
  exact zh_ret ⟨h', u', co', ro', _, k3, z3⟩
theorem yw_comesBy (R : yl_R L K V nc tS tL sP lP kd fr hf to mc C mk mf mh mt) (hm : yw_mo t cl sc sr ch ts br wc wr gl m) (s0 : 0 ≤ s) (s1 : s < 6) (i1 : 0 ≤ i) (i2 : i < 24) (hti : zb t i.toNat = true) {n : Int} (n0 : 0 ≤ n) (n1 : n ≤ 48) {g S : Int → Int} :
    zh_ok (zf_M_comesBy s i p n mc m mk g mh mt C S mf) fun o => yw_mo t cl sc sr ch ts br wc wr gl o.2.1 := by
  unfold zf_M_comesBy
  refine zh_sum (Q := fun q => match q with
    | .inl a => yw_mo t cl sc sr ch ts br wc wr gl a.1
    | .inr b => yw_mo t cl sc sr ch ts br wc wr gl b.2.1) (zh_loop (F := fun f j (a : (Int → Int) × (Int → Int) × (Int → Int)) => zf_M_comesBy_l0 s i p n mc mk mh mt C mf f j a.1 a.2.1 a.2.2) (N := n + 1) (I := fun _ a => yw_mo t cl sc sr ch ts br wc wr gl a.1) (fun f j a j0 j1 ha kk => ?_) 49 0 (m, g, S) zi_fu (by omega) (by decide) (by omega) (by decide) hm) (fun a ha => zh_ret ha) fun b hb => zh_ret hb
  show zh_ok (zf_M_comesBy_l0_b s i p n mc mk mh mt C mf (zf_M_comesBy_l0 s i p n mc mk mh mt C mf f) j a.1 a.2.1 a.2.2) _
  unfold zf_M_comesBy_l0_b
  refine zh_ite (fun _ => zh_ret ha) fun hj => ?_
  rw [zi_w_id (x := 120 + s) (by omega) (by omega), zi_w_id (x := j + 1) (by omega) (by omega)]
  exact zh_cond (zi_ix_of (by omega) (by omega)) (zh_ite (fun _ => zh_ret ha) fun _ => zh_ite (fun _ => zh_bind (ym_steer R ha s0 s1 i1 i2 hti) fun r5 h5 => kk (_, _, _) (by omega) h5) fun _ => kk (_, _, _) (by omega) ha)
theorem yw_fastestM (R : yl_R L K V nc tS tL sP lP kd fr hf to mc C mk mf mh mt) (k : yk_sky t h u cl sc sr ch co ro br wc wr m) (z : yk_sea ts gp gl m) {x y n w : Int} {aA g S : Int → Int} :
    zh_ok (zf_M_fastest s x y n w mc m aA mk g mh mt C S mf) fun o => ∀ j, 0 ≤ j → j < 422 → o.2.1 j = m j := by
  obtain ⟨⟨ht, k126⟩, -⟩ := id k
  obtain ⟨⟨t1, t2, e127, -⟩, hb⟩ := id z
  have tin : 0 ≤ t ∧ t ≤ 2147483647 := ⟨ht.1, by have := ht.2; omega⟩
  unfold zf_M_fastest
  rw [ze_M_isShip (by omega) (by omega), zl_b, e127]
  refine zh_ite (fun _ => zh_ret fun _ _ _ => rfl) fun q1 => ?_
  rw [ze_M_isPlace, zl_b]
  refine zh_ite (fun _ => zh_ret fun _ _ _ => rfl) fun q2 => ?_
  rw [ze_M_in, zl_b]
  refine zh_ite (fun _ => zh_ret fun _ _ _ => rfl) fun q3 => ?_
  rw [ze_M_in, zl_b]
  refine zh_ite (fun _ => zh_ret fun _ _ _ => rfl) fun q4 => zh_ite (fun _ => zh_ret fun _ _ _ => rfl) fun q5 => ?_
  obtain ⟨s0, s1, -⟩ := zs_has_ne q1
  obtain ⟨n0, n1⟩ := zs_in_ne q3
  obtain ⟨mA, e1, hA⟩ := ze_begins (g0 := m) (g := aA)
  rw [e1, zl_b, zl_b, zi_w_id (x := 120 + s) (by omega) (by omega)]
  have hmA : yw_mo t cl sc sr ch ts br wc wr gl mA := yw_mo_cg ⟨h, u, co, ro, gp, k, z⟩ hA
  have lp : ∀ a b q, zh_ok (zf_M_fastest_l0 s n q mc mA mk mh mt C mf zi_fu a b 0 m g S) fun _ => True := fun a b q => by
    refine zh_loop (F := fun f i (a : Int × Int × (Int → Int) × (Int → Int) × (Int → Int)) => zf_M_fastest_l0 s n q mc mA mk mh mt C mf f a.1 a.2.1 i a.2.2.1 a.2.2.2.1 a.2.2.2.2) (N := 24) (I := fun _ _ => True) (fun f i a i0 i1 _ kk => ?_) 24 0 (a, b, m, g, S) zi_fu (by decide) (by decide) (by decide) (by decide) trivial
    obtain ⟨a1, a2, a3, a4, a5⟩ := a
    show zh_ok (zf_M_fastest_l0_b s n q mc mA mk mh mt C mf (zf_M_fastest_l0 s n q mc mA mk mh mt C mf f) a1 a2 i a3 a4 a5) _
    unfold zf_M_fastest_l0_b
    refine zh_ite (fun hi => ?_) fun _ => zh_ret trivial
    obtain ⟨mB, e2, hB⟩ := ze_again (g0 := mA) (g := a3)
    have hmB := yw_mo_cg hmA hB
    have b126 : mB 126 = t := by rw [hB 126 (by decide) (by decide), hA 126 (by decide) (by decide), k126]
    rw [e2, zl_b, ze_M_isTold (by rw [b126]; exact tin.1) (by rw [b126]; exact tin.2), b126, zl_b, zi_w_id (x := i + 1) (by omega) (by omega)]
    have k2 : ∀ b1 b2 b3 b4 b5, zh_ok (zf_M_fastest_l0 s n q mc mA mk mh mt C mf f b1 b2 (i + 1) b3 b4 b5) fun _ => True := fun b1 b2 b3 b4 b5 => kk (b1, b2, b3, b4, b5) hi trivial
    refine zh_ite (fun _ => k2 _ _ _ _ _) fun q6 => ?_
    have hti : zb t i.toNat = true := by
      by_cases hh : zb t i.toNat = true
      · exact hh
      · exact absurd (zs_has0 tin.1 tin.2 hh) q6
    exact zh_bind (yw_comesBy R hmB s0 s1 i0 hi hti (by omega) (by omega)) fun r18 _ => zh_ite (fun _ => k2 _ _ _ _ _) fun _ => zh_ite (fun _ => k2 _ _ _ _ _) fun _ => zh_ite (fun _ => zh_ite (fun _ => k2 _ _ _ _ _) fun _ => k2 _ _ _ _ _) fun _ => k2 _ _ _ _ _
  have fin : ∀ m2, ∃ m3, zf_M_again mA m2 = some m3 ∧ ∀ j, 0 ≤ j → j < 422 → m3 j = m j := fun m2 => by
    obtain ⟨m3, e3, h3⟩ := ze_again (g0 := mA) (g := m2)
    exact ⟨m3, e3, fun j j0 j1 => by rw [h3 j j0 j1, hA j j0 j1]⟩
  refine zh_cond (zi_ix_of (by omega) (by omega)) (zh_ite (fun _ => zh_bind (lp _ _ _) fun q28 _ => ?_) fun _ => zh_bind (lp _ _ _) fun q28 _ => ?_)
  · obtain ⟨m3, e3, h3⟩ := fin q28.2.2.1
    rw [e3, zl_b]
    exact zh_ite (fun _ => zh_ret h3) fun _ => zh_ite (fun _ => zh_ret h3) fun _ => zh_ret h3
  · obtain ⟨m3, e3, h3⟩ := fin q28.2.2.1
    rw [e3, zl_b]
    exact zh_ite (fun _ => zh_ret h3) fun _ => zh_ite (fun _ => zh_ret h3) fun _ => zh_ret h3
theorem yw_comesTwo (R : yl_R L K V nc tS tL sP lP kd fr hf to mc C mk mf mh mt) {mA m1 : Int → Int} (hm : yw_mo t cl sc sr ch ts br wc wr gl mA) (s0 : 0 ≤ s) (s1 : s < 6) {a b q v w : Int} (a0 : 0 ≤ a) (a1 : a < 24) (ha : zb t a.toNat = true) (b0 : 0 ≤ b) (b1 : b < 24) (hb : zb t b.toNat = true) (v0 : 0 ≤ v) (v1 : v ≤ 12) (w0 : 0 ≤ w) (w1 : w ≤ 12) {g S : Int → Int} :
    zh_ok (zf_M_comesByTwo s q a v b w mc mA m1 mk g mh mt C S mf) fun _ => True := by
  unfold zf_M_comesByTwo
  obtain ⟨mB, e2, hB⟩ := ze_again (g0 := mA) (g := m1)
  rw [e2, zl_b]
  refine zh_bind (Q := fun q => yw_mo t cl sc sr ch ts br wc wr gl q.1) (zh_loop (F := fun f j (c : (Int → Int) × (Int → Int) × (Int → Int)) => zf_M_comesByTwo_l0 s a v mc mk mh mt C mf f j c.1 c.2.1 c.2.2) (N := v) (I := fun _ c => yw_mo t cl sc sr ch ts br wc wr gl c.1) (fun f j c j0 j1 hc kk => ?_) 12 0 (mB, g, S) zi_fu (by omega) (by decide) v0 (by decide) (yw_mo_cg hm hB)) fun q4 h4 => zh_bind (Q := fun q => yw_mo t cl sc sr ch ts br wc wr gl q.1) (zh_loop (F := fun f j (c : (Int → Int) × (Int → Int) × (Int → Int)) => zf_M_comesByTwo_l1 s b w mc mk mh mt C mf f j c.1 c.2.1 c.2.2) (N := w) (I := fun _ c => yw_mo t cl sc sr ch ts br wc wr gl c.1) (fun f j c j0 j1 hc kk => ?_) 12 0 (q4.1, q4.2.1, q4.2.2) zi_fu (by omega) (by decide) w0 (by decide) h4) fun q7 _ => ?_
  · show zh_ok (zf_M_comesByTwo_l0_b s a v mc mk mh mt C mf (zf_M_comesByTwo_l0 s a v mc mk mh mt C mf f) j c.1 c.2.1 c.2.2) _
    unfold zf_M_comesByTwo_l0_b
    refine zh_ite (fun hj => ?_) fun _ => zh_ret hc
    rw [zi_w_id (x := j + 1) (by omega) (by omega)]
    exact zh_bind (ym_steer R hc s0 s1 a0 a1 ha) fun r3 h3 => kk (_, _, _) hj h3
  · show zh_ok (zf_M_comesByTwo_l1_b s b w mc mk mh mt C mf (zf_M_comesByTwo_l1 s b w mc mk mh mt C mf f) j c.1 c.2.1 c.2.2) _
    unfold zf_M_comesByTwo_l1_b
    refine zh_ite (fun hj => ?_) fun _ => zh_ret hc
    rw [zi_w_id (x := j + 1) (by omega) (by omega)]
    exact zh_bind (ym_steer R hc s0 s1 b0 b1 hb) fun r3 h3 => kk (_, _, _) hj h3
  · rw [zi_w_id (x := 120 + s) (by omega) (by omega)]
    exact zh_cond (zi_ix_of (by omega) (by omega)) (zh_ite (fun _ => zh_ret trivial) fun _ => zh_ret trivial)
theorem yw_laysTwo (R : yl_R L K V nc tS tL sP lP kd fr hf to mc C mk mf mh mt) {mA m1 : Int → Int} (hm : yw_mo t cl sc sr ch ts br wc wr gl mA) (ht : mA 126 = t) (s0 : 0 ≤ s) (s1 : s < 6) {q n f1 f2 f3 f4 : Int} (n0 : 2 ≤ n) (n1 : n ≤ 12) {g S : Int → Int} :
    zh_ok (zf_M_laysTwo s q n mc f1 f2 f3 f4 mA m1 mk g mh mt C S mf) fun _ => True := by
  unfold zf_M_laysTwo
  refine zh_sum (Q := fun _ => True) (zh_loop (F := fun f j (c : (Int → Int) × (Int → Int) × (Int → Int)) => zf_M_laysTwo_l0 s q n mc mA mk mh mt C mf f j c.1 c.2.1 c.2.2) (N := n + 1) (I := fun j _ => 2 ≤ j) (fun f j c j0 j1 hj2 kk => ?_) 12 2 (m1, g, S) zi_fu (by omega) (by decide) (by omega) (by decide) (Int.le_refl 2)) (fun _ _ => zh_ret trivial) fun _ _ => zh_ret trivial
  show zh_ok (zf_M_laysTwo_l0_b s q n mc mA mk mh mt C mf (zf_M_laysTwo_l0 s q n mc mA mk mh mt C mf f) j c.1 c.2.1 c.2.2) _
  unfold zf_M_laysTwo_l0_b
  refine zh_ite (fun _ => zh_ret trivial) fun hj => ?_
  rw [zi_w_id (x := j + 1) (by omega) (by omega)]
  refine zh_sum (Q := fun _ => True) (zh_loop (F := fun f a (c : (Int → Int) × (Int → Int) × (Int → Int)) => zf_M_laysTwo_l1 s q j mc mA mk mh mt C mf f a c.1 c.2.1 c.2.2) (N := 24) (I := fun _ _ => True) (fun f a c a0 a1 _ k2 => ?_) 24 0 (_, _, _) zi_fu (by decide) (by decide) (by decide) (by decide) trivial) (fun c _ => kk (_, _, _) (by omega) (by omega)) fun _ _ => zh_ret trivial
  show zh_ok (zf_M_laysTwo_l1_b s q j mc mA mk mh mt C mf (zf_M_laysTwo_l1 s q j mc mA mk mh mt C mf f) a c.1 c.2.1 c.2.2) _
  unfold zf_M_laysTwo_l1_b
  refine zh_ite (fun ha => ?_) fun _ => zh_ret trivial
  rw [zi_w_id (x := a + 1) (by omega) (by omega)]
  refine zh_sum (Q := fun _ => True) (zh_loop (F := fun f v (c : (Int → Int) × (Int → Int) × (Int → Int)) => zf_M_laysTwo_l2 s q j a mc mA mk mh mt C mf f v c.1 c.2.1 c.2.2) (N := j) (I := fun v _ => 1 ≤ v) (fun f v c v0 v1 hv1 k3 => ?_) 13 1 (_, _, _) zi_fu (by omega) (by decide) (by omega) (by decide) (Int.le_refl 1)) (fun c _ => k2 (_, _, _) ha trivial) fun _ _ => zh_ret trivial
  show zh_ok (zf_M_laysTwo_l2_b s q j a mc mA mk mh mt C mf (zf_M_laysTwo_l2 s q j a mc mA mk mh mt C mf f) v c.1 c.2.1 c.2.2) _
  unfold zf_M_laysTwo_l2_b
  refine zh_ite (fun hv => ?_) fun _ => zh_ret trivial
  rw [zi_w_id (x := v + 1) (by omega) (by omega), ht, ze_has2 a0 (by omega), zl_b]
  refine zh_ite (fun _ => zh_ret trivial) fun hta => ?_
  have hta : zb t a.toNat = true := by
    by_cases hh : zb t a.toNat = true
    · exact hh
    · rw [if_neg hh] at hta; exact absurd rfl hta
  refine zh_sum (Q := fun _ => True) (zh_loop (F := fun f b (c : (Int → Int) × (Int → Int) × (Int → Int)) => zf_M_laysTwo_l3 s q j a v mc mA mk mh mt C mf f b c.1 c.2.1 c.2.2) (N := 24) (I := fun _ _ => True) (fun f b c b0 b1 _ k4 => ?_) 24 0 (_, _, _) zi_fu (by decide) (by decide) (by decide) (by decide) trivial) (fun c _ => k3 (_, _, _) hv (by omega)) fun _ _ => zh_ret trivial
  show zh_ok (zf_M_laysTwo_l3_b s q j a v mc mA mk mh mt C mf (zf_M_laysTwo_l3 s q j a v mc mA mk mh mt C mf f) b c.1 c.2.1 c.2.2) _
  unfold zf_M_laysTwo_l3_b
  refine zh_ite (fun hb => ?_) fun _ => zh_ret trivial
  rw [zi_w_id (x := b + 1) (by omega) (by omega), zi_w_id (x := j - v) (by omega) (by omega), ht, ze_has2 b0 (by omega), zl_b]
  refine zh_ite (fun _ => k4 (_, _, _) hb trivial) fun htb => ?_
  have htb : zb t b.toNat = true := by
    by_cases hh : zb t b.toNat = true
    · exact hh
    · rw [if_neg hh] at htb; exact absurd rfl htb
  exact zh_bind (yw_comesTwo R hm s0 s1 a0 ha hta b0 hb htb (by omega) (by omega) (by omega) (by omega)) fun r9 _ => zh_ite (fun _ => k4 (_, _, _) hb trivial) fun _ => zh_ret trivial
theorem yw_byTwoM (R : yl_R L K V nc tS tL sP lP kd fr hf to mc C mk mf mh mt) (k : yk_sky t h u cl sc sr ch co ro br wc wr m) (z : yk_sea ts gp gl m) {x y n w f1 f2 f3 f4 : Int} {aA g S : Int → Int} :
    zh_ok (zf_M_byTwo s x y n w mc f1 f2 f3 f4 m aA mk g mh mt C S mf) fun o => ∀ j, 0 ≤ j → j < 422 → o.2.2.2.2.2.1 j = m j := by
  obtain ⟨⟨ht, k126⟩, -⟩ := id k
  obtain ⟨⟨t1, t2, e127, -⟩, hb⟩ := id z
  unfold zf_M_byTwo
  rw [ze_M_isShip (by omega) (by omega), zl_b, e127]
  refine zh_ite (fun _ => zh_ret fun _ _ _ => rfl) fun q1 => ?_
  rw [ze_M_isPlace, zl_b]
  refine zh_ite (fun _ => zh_ret fun _ _ _ => rfl) fun q2 => ?_
  rw [ze_M_in, zl_b]
  refine zh_ite (fun _ => zh_ret fun _ _ _ => rfl) fun q3 => ?_
  rw [ze_M_in, zl_b]
  refine zh_ite (fun _ => zh_ret fun _ _ _ => rfl) fun q4 => zh_ite (fun _ => zh_ret fun _ _ _ => rfl) fun q5 => ?_
  obtain ⟨s0, s1, -⟩ := zs_has_ne q1
  obtain ⟨n0, n1⟩ := zs_in_ne q3
  obtain ⟨mA, e1, hA⟩ := ze_begins (g0 := m) (g := aA)
  rw [e1, zl_b]
  have hmA : yw_mo t cl sc sr ch ts br wc wr gl mA := yw_mo_cg ⟨h, u, co, ro, gp, k, z⟩ hA
  refine zh_bind (yw_laysTwo R hmA (by rw [hA 126 (by decide) (by decide), k126]) s0 s1 n0 n1) fun r11 _ => ?_
  obtain ⟨m3, e3, h3⟩ := ze_again (g0 := mA) (g := r11.2.2.2.2.2.1)
  have h4 : ∀ j, 0 ≤ j → j < 422 → m3 j = m j := fun j j0 j1 => by rw [h3 j j0 j1, hA j j0 j1]
  rw [e3, zl_b]
  exact zh_ite (fun _ => zh_ret h4) fun _ => zh_ite (fun _ => zh_ret h4) fun _ => zh_ite (fun _ => zh_ret h4) fun _ => zh_ite (fun _ => zh_ret h4) fun _ => zh_ret h4
end YWS
end
section
/-! fastest, byTwo: the class answers; the legs' places stay in the sea. -/
section YWF
variable {L : zLW} {K V kd fr hf to C mk mf mh mt : Int → Int} {nc tS tL sP lP mc : Int} {t h u cl sc sr ch ts p i : Int} {co ro br wc wr m gp gl : Int → Int}
def yw_wo (t h u cl sc sr ch ts : Int) (co ro br wc wr gl : Int → Int) : Prop := ∃ gp m, yk_sky t h u cl sc sr ch co ro br wc wr m ∧ yk_sea ts gp gl m
def yw_rn (g : Int → Int) : Prop := ∀ j, 0 ≤ j → j < 288 → g j = -1 ∨ (0 ≤ g j ∧ g j < 288)
theorem yw_rn_up {k v : Int} {g : Int → Int} (h : yw_rn g) (v0 : 0 ≤ v) (v1 : v < 288) : yw_rn (zv_up g k v) := fun j j0 j1 => by
  by_cases e : j = k
  · subst e; rw [zv_up_s]; exact Or.inr ⟨v0, v1⟩
  · rw [zv_up_n e]; exact h j j0 j1
theorem ze_fill288 {v : Int} {g : Int → Int} : ∃ g2, zf_Arrays_fill_288 v g = some g2 ∧ ∀ i, 0 ≤ i → i < 288 → g2 i = v := by
  obtain ⟨g2, e, a, -⟩ := ze_fill288_l0 (v := v) 288 0 g zi_fu rfl (by decide) (by decide)
  refine ⟨g2, ?_, a⟩
  unfold zf_Arrays_fill_288
  rw [e]; rfl
theorem yw_hs (h1 : 0 ≤ t) (h2 : t ≤ 2147483647) (q : ¬ zs_has 24 t i = 0) : zb t i.toNat = true := by
  rw [← zb_tb2 h1 h2]; exact (zs_has_ne q).2.2
theorem yw_turnX (w : yw_wo t h u cl sc sr ch ts co ro br wc wr gl) {as : Int} {g : Int → Int} : ∃ h' u' co' ro' g', zf_Pilot_turnOnward h u as co wc ro wr g = some (h', u', 0, co', ro', g') ∧ yw_wo t h' u' cl sc sr ch ts co' ro' br wc wr gl := by
  obtain ⟨gp, m, k, z⟩ := w
  obtain ⟨h', u', co', ro', m', e2, -, k3, e4⟩ := yk_pass k
  obtain ⟨g', e5, -⟩ := ze_open (f := as) (g := g)
  refine ⟨h', u', co', ro', g', ?_, gp, m', k3, yk_sea_fr z fun j hj => e4 j (by omega) (by omega) (by omega)⟩
  unfold zf_Pilot_turnOnward
  rw [e2, zl_b, e5, zl_b]
theorem yw_stepX (R : yl_R L K V nc tS tL sP lP kd fr hf to mc C mk mf mh mt) (w : yw_wo t h u cl sc sr ch ts co ro br wc wr gl) (p1 : 0 ≤ p) (p2 : p < 288) (i1 : 0 ≤ i) (i2 : i < 24) (hti : zb t i.toNat = true) {f2 f3 as ho f14 : Int} {g S : Int → Int} (hc : yv_ca L sP h u co ro br as ho) :
    zh_ok (zf_Pilot_step p i f2 f3 h u t sc sr cl tS as ho nc f14 sP g co ro br kd hf to K S V gl) fun o => 0 ≤ o.1 ∧ o.1 < 288 ∧ yv_ca L sP h u co ro br o.2.2.2.1 o.2.2.2.2.1 := by
  obtain ⟨gp, m, k, z⟩ := w
  obtain ⟨-, -, -, -, -, -, -, ki⟩ := id k
  obtain ⟨⟨-, ⟨r1, r2⟩, -⟩, -, -⟩ := ki i i1 i2
  obtain ⟨as', ho', a', g', S', e, hc'⟩ := yx_step (f2 := f2) (f3 := f3) (f14 := f14) (g := g) (S := S) R k z p1 p2 i1 i2 hti hc
  have hq : 0 ≤ (if yv_see L tS h u cl sc sr co ro br (p % 24) (p / 24) i = true then yg_st gl p (yg_tr (p % 24) (yv_st h co i)) (ro i - p / 24) else p) ∧ (if yv_see L tS h u cl sc sr co ro br (p % 24) (p / 24) i = true then yg_st gl p (yg_tr (p % 24) (yv_st h co i)) (ro i - p / 24) else p) < 288 := by
    split
    · exact yg_st_in p1 p2 (by omega) (by omega)
    · exact ⟨p1, p2⟩
  exact ⟨_, e, hq.1, hq.2, hc'⟩
theorem yw_sfl (R : yl_R L K V nc tS tL sP lP kd fr hf to mc C mk mf mh mt) (w : yw_wo t h u cl sc sr ch ts co ro br wc wr gl) {x y as ho a : Int} {G g S : Int → Int} (hc : yv_ca L sP h u co ro br as ho) (hG : yw_rg 24 G) :
    zh_ok (zf_Pilot_stepFirstLegs t x y h u sc sr cl tS as ho nc a sP G g co ro br kd hf to K S V gl) fun o => yv_ca L sP h u co ro br o.2.2.1 o.2.2.2.1 ∧ yw_rg 24 o.2.2.2.2.2.1 := by
  have tin : 0 ≤ t ∧ t ≤ 2147483647 := by obtain ⟨gp, m, ⟨⟨ht, -⟩, -⟩, -⟩ := w; exact ⟨ht.1, by have := ht.2; omega⟩
  unfold zf_Pilot_stepFirstLegs
  refine zh_bind (Q := fun o => yv_ca L sP h u co ro br o.2.2.1 o.2.2.2.1 ∧ yw_rg 24 o.2.2.2.2.2.1) (zh_loop (F := fun f j (b : Int × Int × Int × Int × Int × (Int → Int) × (Int → Int) × (Int → Int)) => zf_Pilot_stepFirstLegs_l0 t h u sc sr cl tS nc sP co ro br kd hf to K V gl f j b.1 b.2.1 b.2.2.1 b.2.2.2.1 b.2.2.2.2.1 b.2.2.2.2.2.1 b.2.2.2.2.2.2.1 b.2.2.2.2.2.2.2) (N := 24) (I := fun _ o => yv_ca L sP h u co ro br o.2.2.1 o.2.2.2.1 ∧ yw_rg 24 o.2.2.2.2.2.1) (fun f j b j0 j1 ha kk => ?_) 24 0 (x, y, as, ho, a, G, g, S) zi_fu (by decide) (by decide) (by decide) (by decide) ⟨hc, hG⟩) fun q hq => zh_ret hq
  obtain ⟨b1, b2, b3, b4, b5, b6, b7, b8⟩ := b
  show zh_ok (zf_Pilot_stepFirstLegs_l0_b t h u sc sr cl tS nc sP co ro br kd hf to K V gl (zf_Pilot_stepFirstLegs_l0 t h u sc sr cl tS nc sP co ro br kd hf to K V gl f) j b1 b2 b3 b4 b5 b6 b7 b8) _
  unfold zf_Pilot_stepFirstLegs_l0_b
  refine zh_ite (fun hj => ?_) fun _ => zh_ret ha
  rw [ze_Sky_hasStar tin.1 tin.2, zl_b, zi_w_id (x := j + 1) (by omega) (by omega)]
  have k2 : ∀ c1 c2 c3 c4 c5 c6 c7 c8, yv_ca L sP h u co ro br c3 c4 → yw_rg 24 c6 → zh_ok (zf_Pilot_stepFirstLegs_l0 t h u sc sr cl tS nc sP co ro br kd hf to K V gl f (j + 1) c1 c2 c3 c4 c5 c6 c7 c8) _ := fun c1 c2 c3 c4 c5 c6 c7 c8 q1 q2 => kk (c1, c2, c3, c4, c5, c6, c7, c8) hj ⟨q1, q2⟩
  refine zh_ite (fun _ => k2 _ _ _ _ _ _ _ _ ha.1 ha.2) fun q => ?_
  have hp := ha.2 j j0 hj
  exact zh_cond (zi_ix_of j0 hj) (zh_bind (yw_stepX R w hp.1 hp.2 j0 hj (yw_hs tin.1 tin.2 q) ha.1) fun r5 h5 => k2 _ _ _ _ _ _ _ _ h5.2.2 (yw_rg_up ha.2 h5.1 h5.2.1))
theorem yw_ffl1 {x4 x7 : Int} (h1 : 0 ≤ t) (h2 : t ≤ 2147483647) {f3 f4 f5 f6 f11 f12 f14 : Int} {g0 g1 g2 g3 g9 g14 : Int → Int} :
    zh_ok (zf_Pilot_findFastest_l1 x4 x7 t f3 f4 f5 f6 f11 f12 f14 g0 g1 g2 g3 g9 g14 zi_fu 0) fun _ => True := by
  refine zh_loop (F := fun f j (_ : Unit) => zf_Pilot_findFastest_l1 x4 x7 t f3 f4 f5 f6 f11 f12 f14 g0 g1 g2 g3 g9 g14 f j) (N := 24) (I := fun _ _ => True) (fun f j b j0 j1 _ kk => ?_) 24 0 () zi_fu (by decide) (by decide) (by decide) (by decide) trivial
  show zh_ok (zf_Pilot_findFastest_l1_b x4 x7 t f3 f4 f5 f6 f11 f12 f14 g0 g1 g2 g3 g9 g14 (zf_Pilot_findFastest_l1 x4 x7 t f3 f4 f5 f6 f11 f12 f14 g0 g1 g2 g3 g9 g14 f) j) _
  unfold zf_Pilot_findFastest_l1_b
  refine zh_ite (fun hj => ?_) fun _ => zh_ret trivial
  rw [ze_Sky_hasStar h1 h2, zl_b, zi_w_id (x := j + 1) (by omega) (by omega)]
  exact zh_ite (fun _ => kk () hj trivial) fun _ => zh_cond (zi_ix_of j0 hj) (zh_ite (fun _ => zh_ret trivial) fun _ => kk () hj trivial)
theorem yw_findF (R : yl_R L K V nc tS tL sP lP kd fr hf to mc C mk mf mh mt) (w : yw_wo t h u cl sc sr ch ts co ro br wc wr gl) {x3 x4 x5 x y as ho a f16 f17 : Int} {G g S A : Int → Int} (hc : yv_ca L sP h u co ro br as ho) (q3 : 0 ≤ x3) (q4 : x3 < 288) (q5 : 0 ≤ x5) (q6 : x5 ≤ 48) :
    zh_ok (zf_Pilot_findFastest x3 x4 x5 t x y h u sc sr cl tS as ho nc a sP f16 f17 G g co ro br kd hf to K S V gl wc wr A) fun _ => True := by
  have tin : 0 ≤ t ∧ t ≤ 2147483647 := by obtain ⟨gp, m, ⟨⟨ht, -⟩, -⟩, -⟩ := w; exact ⟨ht.1, by have := ht.2; omega⟩
  unfold zf_Pilot_findFastest
  refine zh_ite (fun _ => zh_bind (zh_bind zh_bc fun _ _ => zh_ret (P := fun _ => True) trivial) fun _ _ => zh_ret trivial) fun _ => ?_
  obtain ⟨G2, e1, hG⟩ := ze_fill24 (v := x3) (g := G)
  have hG2 : yw_rg 24 G2 := fun j j0 j1 => by rw [hG j j0 j1]; exact ⟨q3, q4⟩
  rw [e1, zl_b]
  refine zh_sum (Q := fun _ => True) (zh_loop (F := fun f j (b : Int × Int × Int × Int × Int × Int × Int × (Int → Int) × (Int → Int) × (Int → Int) × (Int → Int) × (Int → Int) × (Int → Int)) => zf_Pilot_findFastest_l0 x4 x5 t sc sr cl tS nc sP br kd hf to K V gl wc wr f j b.1 b.2.1 b.2.2.1 b.2.2.2.1 b.2.2.2.2.1 b.2.2.2.2.2.1 b.2.2.2.2.2.2.1 b.2.2.2.2.2.2.2.1 b.2.2.2.2.2.2.2.2.1 b.2.2.2.2.2.2.2.2.2.1 b.2.2.2.2.2.2.2.2.2.2.1 b.2.2.2.2.2.2.2.2.2.2.2.1 b.2.2.2.2.2.2.2.2.2.2.2.2) (N := x5 + 1) (I := fun _ o => yw_wo t o.2.2.1 o.2.2.2.1 cl sc sr ch ts o.2.2.2.2.2.2.2.2.2.1 o.2.2.2.2.2.2.2.2.2.2.1 br wc wr gl ∧ yv_ca L sP o.2.2.1 o.2.2.2.1 o.2.2.2.2.2.2.2.2.2.1 o.2.2.2.2.2.2.2.2.2.2.1 br o.2.2.2.2.1 o.2.2.2.2.2.1 ∧ yw_rg 24 o.2.2.2.2.2.2.2.1) (fun f j b j0 j1 ha kk => ?_) 49 1 (x, y, h, u, as, ho, a, G2, g, co, ro, S, A) zi_fu (by omega) (by decide) (by omega) (by decide) ⟨w, hc, hG2⟩) (fun _ _ => zh_ret trivial) fun _ _ => zh_ret trivial
  obtain ⟨b1, b2, b3, b4, b5, b6, b7, b8, b9, b10, b11, b12, b13⟩ := b
  show zh_ok (zf_Pilot_findFastest_l0_b x4 x5 t sc sr cl tS nc sP br kd hf to K V gl wc wr (zf_Pilot_findFastest_l0 x4 x5 t sc sr cl tS nc sP br kd hf to K V gl wc wr f) j b1 b2 b3 b4 b5 b6 b7 b8 b9 b10 b11 b12 b13) _
  unfold zf_Pilot_findFastest_l0_b
  refine zh_ite (fun _ => zh_ret trivial) fun hj => ?_
  rw [zi_w_id (x := j + 1) (by omega) (by omega)]
  obtain ⟨w2, c2, G3⟩ := ha
  refine zh_bind (yw_sfl R w2 c2 G3) fun r4 h4 => zh_sum (Q := fun _ => True) (yw_ffl1 tin.1 tin.2) (fun e _ => ?_) fun _ _ => zh_ret trivial
  obtain ⟨h', u', co', ro', g', e7, w3⟩ := yw_turnX (as := r4.2.2.1) (g := b13) w2
  show zh_ok ((zf_Pilot_turnOnward b3 b4 r4.2.2.1 b10 wc b11 wr b13).bind _) _
  rw [e7, zl_b]
  exact kk (r4.1, r4.2.1, h', u', 0, r4.2.2.2.1, r4.2.2.2.2.1, r4.2.2.2.2.2.1, r4.2.2.2.2.2.2.1, co', ro', r4.2.2.2.2.2.2.2, g') (by omega) ⟨w3, yv_ca0, h4.2⟩
theorem yw_ask {s x y : Int} (h1 : 0 ≤ ts) (h2 : ts ≤ 2147483647) : zh_ok (zf_X_canAskVoyage s x y ts t) fun r => ¬ r = 0 → (0 ≤ s ∧ s < 6) ∧ 0 ≤ x ∧ x < 24 ∧ 0 ≤ y ∧ y < 12 := by
  unfold zf_X_canAskVoyage
  rw [ze_Sea_hasShip h1 h2, zl_b]
  refine zh_ite (fun _ => zh_ret fun q => absurd rfl q) fun q1 => ?_
  rw [ze_X_isPlace, zl_b]
  refine zh_ite (fun _ => zh_ret fun q => absurd rfl q) fun q2 => zh_ite (fun _ => zh_ret fun q => absurd rfl q) fun _ => zh_ret fun _ => ⟨⟨(zs_has_ne q1).1, (zs_has_ne q1).2.1⟩, zs_pl_ne q2⟩
theorem yw_fastestX (R : yl_R L K V nc tS tL sP lP kd fr hf to mc C mk mf mh mt) (k : yk_sky t h u cl sc sr ch co ro br wc wr m) (z : yk_sea ts gp gl m) {s x y n w : Int} {f2 f4 f6 f8 f10 f12 f14 f18 f19 f20 f22 f24 f26 f27 : Int} {g1 g3 g5 g7 g9 g10 g12 g13 g18 : Int → Int} :
    zh_ok (zf_X_fastest s x y n w ts t f2 h f4 u f6 cl f8 sc f10 sr f12 ch f14 f18 f19 f20 tS f22 nc f24 sP f26 f27 co g1 ro g3 br g5 wc g7 wr g9 g10 gp g12 g13 kd hf to K g18 V gl) fun _ => True := by
  obtain ⟨⟨t1, t2, -⟩, hb⟩ := id z
  unfold zf_X_fastest
  refine zh_bind (yw_ask t1 (by omega)) fun r1 h1 => zh_ite (fun _ => zh_ret trivial) fun q1 => ?_
  obtain ⟨⟨s0, s1⟩, x0, x1, y0, y1⟩ := h1 q1
  rw [ze_X_isWithin, zl_b]
  refine zh_ite (fun _ => zh_ret trivial) fun q2 => ?_
  rw [ze_X_isWithin, zl_b]
  refine zh_ite (fun _ => zh_ret trivial) fun q3 => ?_
  obtain ⟨n0, n1⟩ := zs_in_ne q2
  unfold zf_Sky_copyFrom
  rw [zl_b]
  dsimp only
  obtain ⟨gA, e0, h0⟩ := ze_open (f := f18) (g := g10)
  rw [e0, zl_b, ze_X_placeOf x0 x1 y0 y1, zl_b]
  have hp := hb s s0 s1
  have k2 : yk_sky t h u cl sc sr ch (zv_cpy co g1 24) (zv_cpy ro g3 24) (zv_cpy br g5 24) (zv_cpy wc g7 24) (zv_cpy wr g9 24) m := yk_sky_cg k (fun j j1 j2 => zv_cpy_in j2) (fun j j1 j2 => zv_cpy_in j2) (fun j j1 j2 => zv_cpy_in j2) (fun j j1 j2 => zv_cpy_in j2) (fun j j1 j2 => zv_cpy_in j2) (fun _ _ _ => rfl)
  exact zh_cond (zi_ix_of s0 s1) (zh_bind (yw_findF R ⟨gp, m, k2, z⟩ yv_ca0 hp.1 hp.2 (by omega) n1) fun r11 _ => zh_ite (fun _ => zh_ret trivial) fun _ => zh_ite (fun _ => zh_ret trivial) fun _ => zh_ret trivial)
end YWF
end
section
/-! byTwo: the class answers; the legs' places stay in the sea. -/
section YWF2
variable {L : zLW} {K V kd fr hf to C mk mf mh mt : Int → Int} {nc tS tL sP lP mc : Int} {t h u cl sc sr ch ts p i : Int} {co ro br wc wr m gp gl : Int → Int}
theorem yw_lower {x2 : Int} {G : Int → Int} (h1 : 0 ≤ t) (h2 : t ≤ 2147483647) (i0 : 0 ≤ x2) (i1 : x2 < 24) :
    zh_ok (zf_Pilot_isBroughtByLower x2 t G) fun _ => True := by
  unfold zf_Pilot_isBroughtByLower
  refine zh_sum (Q := fun _ => True) (zh_loop (F := fun f j (_ : Unit) => zf_Pilot_isBroughtByLower_l0 x2 t G f j) (N := 24) (I := fun _ _ => True) (fun f j b j0 j1 _ kk => ?_) 24 0 () zi_fu (by decide) (by decide) (by decide) (by decide) trivial) (fun _ _ => zh_ret trivial) fun _ _ => zh_ret trivial
  show zh_ok (zf_Pilot_isBroughtByLower_l0_b x2 t G (zf_Pilot_isBroughtByLower_l0 x2 t G f) j) _
  unfold zf_Pilot_isBroughtByLower_l0_b
  refine zh_ite (fun hj => ?_) fun _ => zh_ret trivial
  rw [ze_Sky_hasStar h1 h2, zl_b, zi_w_id (x := j + 1) (by omega) (by omega)]
  exact zh_ite (fun _ => kk () (by omega) trivial) fun _ => zh_cond (zi_ix_of j0 (by omega)) (zh_cond (zi_ix_of i0 i1) (zh_ite (fun _ => zh_ret trivial) fun _ => kk () (by omega) trivial))
theorem yw_endF {x2 f1 : Int} {G g1 g2 g3 : Int → Int} (h1 : 0 ≤ t) (h2 : t ≤ 2147483647) (hG : yw_rg 24 G) (l0 : 0 ≤ f1) (l1 : f1 ≤ 264) (h3 : yw_rg 264 g3) :
    zh_ok (zf_Pilot_endFirstLegs x2 t f1 G g1 g2 g3) fun o => 0 ≤ o.1 ∧ o.1 ≤ 264 ∧ yw_rg 264 o.2.2.2 := by
  unfold zf_Pilot_endFirstLegs
  refine zh_bind (Q := fun o => 0 ≤ o.1 ∧ o.1 ≤ 264 ∧ yw_rg 264 o.2.2.2) (zh_loop (F := fun f j (b : Int × (Int → Int) × (Int → Int) × (Int → Int)) => zf_Pilot_endFirstLegs_l0 x2 t G f j b.1 b.2.1 b.2.2.1 b.2.2.2) (N := 24) (I := fun _ o => 0 ≤ o.1 ∧ o.1 ≤ 264 ∧ yw_rg 264 o.2.2.2) (fun f j b j0 j1 ha kk => ?_) 24 0 (f1, g1, g2, g3) zi_fu (by decide) (by decide) (by decide) (by decide) ⟨l0, l1, h3⟩) fun q hq => zh_ret hq
  obtain ⟨b1, b2, b3, b4⟩ := b
  obtain ⟨a0, a1, a2⟩ := ha
  dsimp only at a0 a1 a2
  show zh_ok (zf_Pilot_endFirstLegs_l0_b x2 t G (zf_Pilot_endFirstLegs_l0 x2 t G f) j b1 b2 b3 b4) _
  unfold zf_Pilot_endFirstLegs_l0_b
  refine zh_ite (fun hj => ?_) fun _ => zh_ret ⟨a0, a1, a2⟩
  rw [ze_Sky_hasStar h1 h2, zl_b, zi_w_id (x := j + 1) (by omega) (by omega), zi_w_id (x := b1 + 1) (by omega) (by omega)]
  have k2 : ∀ c1 c2 c3 c4, 0 ≤ c1 → c1 ≤ 264 → yw_rg 264 c4 → zh_ok (zf_Pilot_endFirstLegs_l0 x2 t G f (j + 1) c1 c2 c3 c4) _ := fun c1 c2 c3 c4 p1 p2 p3 => kk (c1, c2, c3, c4) hj ⟨p1, p2, p3⟩
  have hp := hG j j0 hj
  exact zh_ite (fun _ => k2 _ _ _ _ a0 a1 a2) fun _ => zh_bind (yw_lower h1 h2 j0 hj) fun r4 _ => zh_ite (fun _ => zh_ite (fun hl => zh_cond (zi_ix_of a0 hl) (zh_cond (zi_ix_of j0 hj) (k2 _ _ _ _ (by omega) (by omega) (yw_rg_up a2 hp.1 hp.2)))) fun _ => k2 _ _ _ _ a0 a1 a2) fun _ => k2 _ _ _ _ a0 a1 a2
theorem yw_fs1 (R : yl_R L K V nc tS tL sP lP kd fr hf to mc C mk mf mh mt) (w : yw_wo t h u cl sc sr ch ts co ro br wc wr gl) {x3 x4 x6 lg best x y as ho a : Int} {lh lf le turns ln g S : Int → Int} (i0 : 0 ≤ x3) (i1 : x3 < 24) (hti : zb t x3.toNat = true) (hl : lg ≤ 264) (hle : yw_rg 264 le) (hc : yv_ca L sP h u co ro br as ho) (ht : yw_rn turns) (hn : yw_rg 264 ln) :
    zh_ok (zf_Pilot_followSecond_l1 x3 x4 x6 lg h u t sc sr cl tS nc sP lh lf co ro br kd hf to K V gl le zi_fu 0 best x y as ho a turns ln g S) fun o => yv_ca L sP h u co ro br o.2.2.2.1 o.2.2.2.2.1 ∧ yw_rg 264 o.2.2.2.2.2.2.2.1 := by
  by_cases hlg : lg < 0
  · show zh_ok (zf_Pilot_followSecond_l1_b x3 x4 x6 lg h u t sc sr cl tS nc sP lh lf co ro br kd hf to K V gl le _ 0 best x y as ho a turns ln g S) _
    unfold zf_Pilot_followSecond_l1_b
    rw [if_neg (by omega)]
    exact zh_ret ⟨hc, hn⟩
  refine zh_loop (F := fun f j (b : Int × Int × Int × Int × Int × Int × (Int → Int) × (Int → Int) × (Int → Int) × (Int → Int)) => zf_Pilot_followSecond_l1 x3 x4 x6 lg h u t sc sr cl tS nc sP lh lf co ro br kd hf to K V gl le f j b.1 b.2.1 b.2.2.1 b.2.2.2.1 b.2.2.2.2.1 b.2.2.2.2.2.1 b.2.2.2.2.2.2.1 b.2.2.2.2.2.2.2.1 b.2.2.2.2.2.2.2.2.1 b.2.2.2.2.2.2.2.2.2) (N := lg) (I := fun _ o => yv_ca L sP h u co ro br o.2.2.2.1 o.2.2.2.2.1 ∧ yw_rn o.2.2.2.2.2.2.1 ∧ yw_rg 264 o.2.2.2.2.2.2.2.1) (fun f j b j0 j1 ha kk => ?_) 264 0 (best, x, y, as, ho, a, turns, ln, g, S) zi_fu (by omega) (by decide) (by omega) (by decide) ⟨hc, ht, hn⟩
  obtain ⟨b1, b2, b3, b4, b5, b6, b7, b8, b9, b10⟩ := b
  obtain ⟨a1, a2, a3⟩ := ha
  dsimp only at a1 a2 a3
  show zh_ok (zf_Pilot_followSecond_l1_b x3 x4 x6 lg h u t sc sr cl tS nc sP lh lf co ro br kd hf to K V gl le (zf_Pilot_followSecond_l1 x3 x4 x6 lg h u t sc sr cl tS nc sP lh lf co ro br kd hf to K V gl le f) j b1 b2 b3 b4 b5 b6 b7 b8 b9 b10) _
  unfold zf_Pilot_followSecond_l1_b
  refine zh_ite (fun hj => ?_) fun _ => zh_ret ⟨a1, a3⟩
  rw [zi_w_id (x := j + 1) (by omega) (by omega)]
  have k2 : ∀ c1 c2 c3 c4 c5 c6 c7 c8 c9 c10, yv_ca L sP h u co ro br c4 c5 → yw_rn c7 → yw_rg 264 c8 → zh_ok (zf_Pilot_followSecond_l1 x3 x4 x6 lg h u t sc sr cl tS nc sP lh lf co ro br kd hf to K V gl le f (j + 1) c1 c2 c3 c4 c5 c6 c7 c8 c9 c10) _ := fun c1 c2 c3 c4 c5 c6 c7 c8 c9 c10 p1 p2 p3 => kk (c1, c2, c3, c4, c5, c6, c7, c8, c9, c10) hj ⟨p1, p2, p3⟩
  have br3 : ∀ (v bb q : Int) c1 c2 c3 c4 c5 c6 c7 c8 c9 c10, yv_ca L sP h u co ro br c4 c5 → yw_rn c7 → yw_rg 264 c8 → zh_ok (if v = x4 then (if b1 = -1 then zf_Pilot_followSecond_l1 x3 x4 x6 lg h u t sc sr cl tS nc sP lh lf co ro br kd hf to K V gl le f (j + 1) bb c2 c3 c4 c5 c6 c7 c8 c9 c10 else (zf_Math_min q bb).bind fun r => zf_Pilot_followSecond_l1 x3 x4 x6 lg h u t sc sr cl tS nc sP lh lf co ro br kd hf to K V gl le f (j + 1) r c2 c3 c4 c5 c6 c7 c8 c9 c10) else zf_Pilot_followSecond_l1 x3 x4 x6 lg h u t sc sr cl tS nc sP lh lf co ro br kd hf to K V gl le f (j + 1) c1 c2 c3 c4 c5 c6 c7 c8 c9 c10) _ := fun v bb q c1 c2 c3 c4 c5 c6 c7 c8 c9 c10 p1 p2 p3 => zh_ite (fun _ => zh_ite (fun _ => k2 _ _ _ _ _ _ _ _ _ _ p1 p2 p3) fun _ => zh_bind (zh_t ze_Math_min) fun r _ => k2 _ _ _ _ _ _ _ _ _ _ p1 p2 p3) fun _ => k2 _ _ _ _ _ _ _ _ _ _ p1 p2 p3
  have stp : ∀ q, 0 ≤ q → q < 288 → zh_ok (zf_Pilot_step q x3 b2 b3 h u t sc sr cl tS b4 b5 nc b6 sP b9 co ro br kd hf to K b10 V gl) _ := fun q q1 q2 => yw_stepX R w q1 q2 i0 i1 hti a1
  have e1 := hle j j0 (by omega)
  have e2 := a3 j j0 (by omega)
  refine zh_cond (zi_ix_of j0 (by omega)) (zh_ite (fun _ => zh_ite (fun _ => zh_cond (zi_ix_of e1.1 e1.2) (zh_ite (fun _ => zh_bind (stp _ e1.1 e1.2) fun r h5 => ?_) fun hne => ?_)) fun _ => zh_cond (zi_ix_of e2.1 e2.2) (zh_ite (fun _ => zh_bind (stp _ e2.1 e2.2) fun r h5 => ?_) fun hne => ?_)) fun _ => zh_ret ⟨a1, a3⟩)
  · exact br3 _ _ _ _ _ _ _ _ _ _ _ _ _ h5.2.2 (yw_rn_up a2 h5.1 h5.2.1) (yw_rg_up a3 (by rw [zv_up_s]; exact h5.1) (by rw [zv_up_s]; exact h5.2.1))
  · have hv := (a2 _ e1.1 e1.2).resolve_left hne
    exact br3 _ _ _ _ _ _ _ _ _ _ _ _ _ a1 a2 (yw_rg_up a3 hv.1 hv.2)
  · exact br3 _ _ _ _ _ _ _ _ _ _ _ _ _ h5.2.2 (yw_rn_up a2 h5.1 h5.2.1) (yw_rg_up a3 (by rw [zv_up_s]; exact h5.1) (by rw [zv_up_s]; exact h5.2.1))
  · have hv := (a2 _ e2.1 e2.2).resolve_left hne
    exact br3 _ _ _ _ _ _ _ _ _ _ _ _ _ a1 a2 (yw_rg_up a3 hv.1 hv.2)
theorem yw_fs (R : yl_R L K V nc tS tL sP lP kd fr hf to mc C mk mf mh mt) (w : yw_wo t h u cl sc sr ch ts co ro br wc wr gl) {x3 x4 x5 lg best x y as ho a : Int} {lh lf le turns ln g S A : Int → Int} (i0 : 0 ≤ x3) (i1 : x3 < 24) (hti : zb t x3.toNat = true) (n0 : 0 ≤ x5) (n1 : x5 ≤ 12) (hl : lg ≤ 264) (hle : yw_rg 264 le) (hc : yv_ca L sP h u co ro br as ho) (hn : yw_rg 264 ln) :
    zh_ok (zf_Pilot_followSecond x3 x4 x5 best lg x y h u t sc sr cl tS as ho nc a sP turns lh ln lf g co ro br kd hf to K S V gl le wc wr A) fun o => yw_rg 264 o.2.2.2.2.2.2.2.2.2.1 := by
  unfold zf_Pilot_followSecond
  refine zh_bind (Q := fun o => yw_rg 264 o.2.2.2.2.2.2.2.2.2.1) (zh_loop (F := fun f j (b : Int × Int × Int × Int × Int × Int × Int × Int × (Int → Int) × (Int → Int) × (Int → Int) × (Int → Int) × (Int → Int) × (Int → Int) × (Int → Int)) => zf_Pilot_followSecond_l0 x3 x4 x5 lg t sc sr cl tS nc sP lh lf br kd hf to K V gl le wc wr f j b.1 b.2.1 b.2.2.1 b.2.2.2.1 b.2.2.2.2.1 b.2.2.2.2.2.1 b.2.2.2.2.2.2.1 b.2.2.2.2.2.2.2.1 b.2.2.2.2.2.2.2.2.1 b.2.2.2.2.2.2.2.2.2.1 b.2.2.2.2.2.2.2.2.2.2.1 b.2.2.2.2.2.2.2.2.2.2.2.1 b.2.2.2.2.2.2.2.2.2.2.2.2.1 b.2.2.2.2.2.2.2.2.2.2.2.2.2.1 b.2.2.2.2.2.2.2.2.2.2.2.2.2.2) (N := x5 + 1) (I := fun _ o => yw_wo t o.2.2.2.1 o.2.2.2.2.1 cl sc sr ch ts o.2.2.2.2.2.2.2.2.2.2.2.1 o.2.2.2.2.2.2.2.2.2.2.2.2.1 br wc wr gl ∧ yv_ca L sP o.2.2.2.1 o.2.2.2.2.1 o.2.2.2.2.2.2.2.2.2.2.2.1 o.2.2.2.2.2.2.2.2.2.2.2.2.1 br o.2.2.2.2.2.1 o.2.2.2.2.2.2.1 ∧ yw_rg 264 o.2.2.2.2.2.2.2.2.2.1) (fun f j b j0 j1 ha kk => ?_) 12 1 (best, x, y, h, u, as, ho, a, turns, ln, g, co, ro, S, A) zi_fu (by omega) (by decide) (by omega) (by decide) ⟨w, hc, hn⟩) fun q hq => zh_ret hq
  obtain ⟨b1, b2, b3, b4, b5, b6, b7, b8, b9, b10, b11, b12, b13, b14, b15⟩ := b
  obtain ⟨w2, c2, n2⟩ := ha
  dsimp only at w2 c2 n2
  show zh_ok (zf_Pilot_followSecond_l0_b x3 x4 x5 lg t sc sr cl tS nc sP lh lf br kd hf to K V gl le wc wr (zf_Pilot_followSecond_l0 x3 x4 x5 lg t sc sr cl tS nc sP lh lf br kd hf to K V gl le wc wr f) j b1 b2 b3 b4 b5 b6 b7 b8 b9 b10 b11 b12 b13 b14 b15) _
  unfold zf_Pilot_followSecond_l0_b
  refine zh_ite (fun _ => zh_ret n2) fun hj => ?_
  rw [zi_w_id (x := j + 1) (by omega) (by omega)]
  have body : zh_ok ((zf_Arrays_fill_288 (-1) b9).bind fun r3 => ((zf_Pilot_followSecond_l1 x3 x4 j lg b4 b5 t sc sr cl tS nc sP lh lf b12 b13 br kd hf to K V gl le zi_fu 0 b1 b2 b3 b6 b7 b8 r3 b10 b11 b14).bind fun q26 => ((zf_Pilot_turnOnward b4 b5 q26.2.2.2.1 b12 wc b13 wr b15).bind fun r27 => (zf_Pilot_followSecond_l0 x3 x4 x5 lg t sc sr cl tS nc sP lh lf br kd hf to K V gl le wc wr f (j + 1) q26.1 q26.2.1 q26.2.2.1 r27.1 r27.2.1 r27.2.2.1 q26.2.2.2.2.1 q26.2.2.2.2.2.1 q26.2.2.2.2.2.2.1 q26.2.2.2.2.2.2.2.1 q26.2.2.2.2.2.2.2.2.1 r27.2.2.2.1 r27.2.2.2.2.1 q26.2.2.2.2.2.2.2.2.2 r27.2.2.2.2.2)))) fun o => yw_rg 264 o.2.2.2.2.2.2.2.2.2.1 := by
    obtain ⟨gF, e3, hF⟩ := ze_fill288 (v := -1) (g := b9)
    rw [e3, zl_b]
    refine zh_bind (yw_fs1 R w2 i0 i1 hti hl hle c2 (fun j j0 j1 => Or.inl (hF j j0 j1)) n2) fun q26 h26 => ?_
    obtain ⟨h', u', co', ro', g', e7, w3⟩ := yw_turnX (as := q26.2.2.2.1) (g := b15) w2
    rw [e7, zl_b]
    exact kk (q26.1, q26.2.1, q26.2.2.1, h', u', 0, q26.2.2.2.2.1, q26.2.2.2.2.2.1, q26.2.2.2.2.2.2.1, q26.2.2.2.2.2.2.2.1, q26.2.2.2.2.2.2.2.2.1, co', ro', q26.2.2.2.2.2.2.2.2.2, g') (by omega) ⟨w3, yv_ca0, h26.2⟩
  exact zh_ite (fun _ => body) fun _ => zh_ite (fun _ => zh_ret n2) fun _ => body
theorem yw_find2a (R : yl_R L K V nc tS tL sP lP kd fr hf to mc C mk mf mh mt) (w : yw_wo t h u cl sc sr ch ts co ro br wc wr gl) {x6 x y as ho a t0 : Int} {G g S lf lh le A : Int → Int} (h1 : 0 ≤ t0) (h2 : t0 ≤ 2147483647) (n1 : x6 ≤ 12) (n0 : 1 ≤ x6) (hc : yv_ca L sP h u co ro br as ho) (hG : yw_rg 24 G) (hle : yw_rg 264 le) :
    zh_ok (zf_Pilot_findByTwo_l0 x6 t sc sr cl tS nc sP t0 br kd hf to K V gl wc wr zi_fu 1 0 x y h u as ho a G g co ro S lf lh le A) fun o => 0 ≤ o.1 ∧ o.1 ≤ 264 ∧ yw_rg 264 o.2.2.2.2.2.2.2.2.2.2.2.2.2.2.2.1 := by
  refine zh_loop (F := fun f j (b : Int × Int × Int × Int × Int × Int × Int × Int × (Int → Int) × (Int → Int) × (Int → Int) × (Int → Int) × (Int → Int) × (Int → Int) × (Int → Int) × (Int → Int) × (Int → Int)) => zf_Pilot_findByTwo_l0 x6 t sc sr cl tS nc sP t0 br kd hf to K V gl wc wr f j b.1 b.2.1 b.2.2.1 b.2.2.2.1 b.2.2.2.2.1 b.2.2.2.2.2.1 b.2.2.2.2.2.2.1 b.2.2.2.2.2.2.2.1 b.2.2.2.2.2.2.2.2.1 b.2.2.2.2.2.2.2.2.2.1 b.2.2.2.2.2.2.2.2.2.2.1 b.2.2.2.2.2.2.2.2.2.2.2.1 b.2.2.2.2.2.2.2.2.2.2.2.2.1 b.2.2.2.2.2.2.2.2.2.2.2.2.2.1 b.2.2.2.2.2.2.2.2.2.2.2.2.2.2.1 b.2.2.2.2.2.2.2.2.2.2.2.2.2.2.2.1 b.2.2.2.2.2.2.2.2.2.2.2.2.2.2.2.2) (N := x6) (I := fun _ o => yw_wo t o.2.2.2.1 o.2.2.2.2.1 cl sc sr ch ts o.2.2.2.2.2.2.2.2.2.2.1 o.2.2.2.2.2.2.2.2.2.2.2.1 br wc wr gl ∧ yv_ca L sP o.2.2.2.1 o.2.2.2.2.1 o.2.2.2.2.2.2.2.2.2.2.1 o.2.2.2.2.2.2.2.2.2.2.2.1 br o.2.2.2.2.2.1 o.2.2.2.2.2.2.1 ∧ yw_rg 24 o.2.2.2.2.2.2.2.2.1 ∧ 0 ≤ o.1 ∧ o.1 ≤ 264 ∧ yw_rg 264 o.2.2.2.2.2.2.2.2.2.2.2.2.2.2.2.1) (fun f j b j0 j1 ha kk => ?_) 12 1 (0, x, y, h, u, as, ho, a, G, g, co, ro, S, lf, lh, le, A) zi_fu (by omega) (by decide) (by omega) (by decide) ⟨w, hc, hG, Int.le_refl 0, (by decide : (0 : Int) ≤ 264), hle⟩
  obtain ⟨b1, b2, b3, b4, b5, b6, b7, b8, b9, b10, b11, b12, b13, b14, b15, b16, b17⟩ := b
  obtain ⟨w2, c2, G2, l0, l1, le2⟩ := ha
  dsimp only at w2 c2 G2 l0 l1 le2
  show zh_ok (zf_Pilot_findByTwo_l0_b x6 t sc sr cl tS nc sP t0 br kd hf to K V gl wc wr (zf_Pilot_findByTwo_l0 x6 t sc sr cl tS nc sP t0 br kd hf to K V gl wc wr f) j b1 b2 b3 b4 b5 b6 b7 b8 b9 b10 b11 b12 b13 b14 b15 b16 b17) _
  unfold zf_Pilot_findByTwo_l0_b
  refine zh_ite (fun hj => ?_) fun _ => zh_ret ⟨l0, l1, le2⟩
  rw [zi_w_id (x := j + 1) (by omega) (by omega)]
  refine zh_bind (yw_sfl R w2 c2 G2) fun r3 h3 => zh_bind (yw_endF h1 h2 h3.2 l0 l1 le2) fun r4 h4 => ?_
  obtain ⟨h', u', co', ro', g', e7, w3⟩ := yw_turnX (as := r3.2.2.1) (g := b17) w2
  show zh_ok ((zf_Pilot_turnOnward b4 b5 r3.2.2.1 b11 wc b12 wr b17).bind _) _
  rw [e7, zl_b]
  exact kk (r4.1, r3.1, r3.2.1, h', u', 0, r3.2.2.2.1, r3.2.2.2.2.1, r3.2.2.2.2.2.1, r3.2.2.2.2.2.2.1, co', ro', r3.2.2.2.2.2.2.2, r4.2.1, r4.2.2.1, r4.2.2.2, g') hj ⟨w3, yv_ca0, h3.2, h4.1, h4.2.1, h4.2.2⟩
theorem yw_find2b (R : yl_R L K V nc tS tL sP lP kd fr hf to mc C mk mf mh mt) (w : yw_wo t h u cl sc sr ch ts co ro br wc wr gl) {x5 x6 lg e1 e2 e3 e4 e5 e6 e7 e8 e9 e10 e11 e12 e13 : Int} {lf lh le d1 d2 d3 d4 d5 d6 d7 d8 d9 d10 : Int → Int} (n0 : 0 ≤ x6) (n1 : x6 ≤ 12) (hl : lg ≤ 264) (hle : yw_rg 264 le) (hn : yw_rg 264 d10) :
    zh_ok (zf_Pilot_findByTwo_l1 x5 x6 lg tS nc sP t h u cl sc sr ch kd hf to K V gl lf lh le co ro br wc wr zi_fu 0 e1 e2 e3 e4 e5 e6 e7 e8 e9 e10 e11 e12 e13 d1 d2 d3 d4 d5 d6 d7 d8 d9 d10) fun o => yw_rg 264 o.2.2.2.2.2.2.2.2.2.2.2.2.2.2.2.2.2.2.2.2.2.2 := by
  have tin : 0 ≤ t ∧ t ≤ 2147483647 := by obtain ⟨gp, m, ⟨⟨ht, -⟩, -⟩, -⟩ := w; exact ⟨ht.1, by have := ht.2; omega⟩
  refine zh_loop (F := fun f j (b : Int × Int × Int × Int × Int × Int × Int × Int × Int × Int × Int × Int × Int × (Int → Int) × (Int → Int) × (Int → Int) × (Int → Int) × (Int → Int) × (Int → Int) × (Int → Int) × (Int → Int) × (Int → Int) × (Int → Int)) => zf_Pilot_findByTwo_l1 x5 x6 lg tS nc sP t h u cl sc sr ch kd hf to K V gl lf lh le co ro br wc wr f j b.1 b.2.1 b.2.2.1 b.2.2.2.1 b.2.2.2.2.1 b.2.2.2.2.2.1 b.2.2.2.2.2.2.1 b.2.2.2.2.2.2.2.1 b.2.2.2.2.2.2.2.2.1 b.2.2.2.2.2.2.2.2.2.1 b.2.2.2.2.2.2.2.2.2.2.1 b.2.2.2.2.2.2.2.2.2.2.2.1 b.2.2.2.2.2.2.2.2.2.2.2.2.1 b.2.2.2.2.2.2.2.2.2.2.2.2.2.1 b.2.2.2.2.2.2.2.2.2.2.2.2.2.2.1 b.2.2.2.2.2.2.2.2.2.2.2.2.2.2.2.1 b.2.2.2.2.2.2.2.2.2.2.2.2.2.2.2.2.1 b.2.2.2.2.2.2.2.2.2.2.2.2.2.2.2.2.2.1 b.2.2.2.2.2.2.2.2.2.2.2.2.2.2.2.2.2.2.1 b.2.2.2.2.2.2.2.2.2.2.2.2.2.2.2.2.2.2.2.1 b.2.2.2.2.2.2.2.2.2.2.2.2.2.2.2.2.2.2.2.2.1 b.2.2.2.2.2.2.2.2.2.2.2.2.2.2.2.2.2.2.2.2.2.1 b.2.2.2.2.2.2.2.2.2.2.2.2.2.2.2.2.2.2.2.2.2.2) (N := 24) (I := fun _ o => yw_rg 264 o.2.2.2.2.2.2.2.2.2.2.2.2.2.2.2.2.2.2.2.2.2.2) (fun f j b j0 j1 ha kk => ?_) 24 0 (e1, e2, e3, e4, e5, e6, e7, e8, e9, e10, e11, e12, e13, d1, d2, d3, d4, d5, d6, d7, d8, d9, d10) zi_fu (by decide) (by decide) (by decide) (by decide) hn
  obtain ⟨b1, b2, b3, b4, b5, b6, b7, b8, b9, b10, b11, b12, b13, b14, b15, b16, b17, b18, b19, b20, b21, b22, b23⟩ := b
  show zh_ok (zf_Pilot_findByTwo_l1_b x5 x6 lg tS nc sP t h u cl sc sr ch kd hf to K V gl lf lh le co ro br wc wr (zf_Pilot_findByTwo_l1 x5 x6 lg tS nc sP t h u cl sc sr ch kd hf to K V gl lf lh le co ro br wc wr f) j b1 b2 b3 b4 b5 b6 b7 b8 b9 b10 b11 b12 b13 b14 b15 b16 b17 b18 b19 b20 b21 b22 b23) _
  unfold zf_Pilot_findByTwo_l1_b
  refine zh_ite (fun hj => ?_) fun _ => zh_ret ha
  rw [ze_Sky_hasStar tin.1 tin.2, zl_b, zi_w_id (x := j + 1) (by omega) (by omega)]
  have k2 : ∀ c1 c2 c3 c4 c5 c6 c7 c8 c9 c10 c11 c12 c13 c14 c15 c16 c17 c18 c19 c20 c21 c22 c23, yw_rg 264 c23 → zh_ok (zf_Pilot_findByTwo_l1 x5 x6 lg tS nc sP t h u cl sc sr ch kd hf to K V gl lf lh le co ro br wc wr f (j + 1) c1 c2 c3 c4 c5 c6 c7 c8 c9 c10 c11 c12 c13 c14 c15 c16 c17 c18 c19 c20 c21 c22 c23) _ := fun c1 c2 c3 c4 c5 c6 c7 c8 c9 c10 c11 c12 c13 c14 c15 c16 c17 c18 c19 c20 c21 c22 c23 p1 => kk (c1, c2, c3, c4, c5, c6, c7, c8, c9, c10, c11, c12, c13, c14, c15, c16, c17, c18, c19, c20, c21, c22, c23) hj p1
  refine zh_ite (fun _ => k2 _ _ _ _ _ _ _ _ _ _ _ _ _ _ _ _ _ _ _ _ _ _ _ ha) fun q => ?_
  unfold zf_Sky_copyFrom
  rw [zl_b]
  dsimp only
  obtain ⟨gA, e0, h0⟩ := ze_open (f := b9) (g := b21)
  rw [e0, zl_b]
  obtain ⟨gp, m, k, z⟩ := w
  have w2 : yw_wo t h u cl sc sr ch ts (zv_cpy co b15 24) (zv_cpy ro b16 24) (zv_cpy br b17 24) (zv_cpy wc b19 24) (zv_cpy wr b20 24) gl := ⟨gp, m, yk_sky_cg k (fun j j1 j2 => zv_cpy_in j2) (fun j j1 j2 => zv_cpy_in j2) (fun j j1 j2 => zv_cpy_in j2) (fun j j1 j2 => zv_cpy_in j2) (fun j j1 j2 => zv_cpy_in j2) (fun _ _ _ => rfl), z⟩
  exact zh_bind (yw_fs R w2 j0 hj (yw_hs tin.1 tin.2 q) n0 n1 hl hle yv_ca0 ha) fun r12 h12 => k2 _ _ _ _ _ _ _ _ _ _ _ _ _ _ _ _ _ _ _ _ _ _ _ h12
theorem yw_find2 (R : yl_R L K V nc tS tL sP lP kd fr hf to mc C mk mf mh mt) (w : yw_wo t h u cl sc sr ch ts co ro br wc wr gl) {co2 ro2 br2 wc2 wr2 : Int → Int} (w2 : yw_wo t h u cl sc sr ch ts co2 ro2 br2 wc2 wr2 gl) {x4 x5 x6 f0 x y as ho a best ch2 f26 f27 f28 f29 : Int} {G g S lf lh le A turns ln : Int → Int} (q3 : 0 ≤ x4) (q4 : x4 < 288) (n0 : 1 ≤ x6) (n1 : x6 ≤ 12) (hc : yv_ca L sP h u co2 ro2 br2 as ho) (hle : yw_rg 264 le) (hn : yw_rg 264 ln) :
    zh_ok (zf_Pilot_findByTwo x4 x5 x6 f0 t x y h u sc sr cl tS as ho nc a sP t best h u cl sc sr ch ch2 f26 f27 f28 f29 G g co2 ro2 br2 kd hf to K S V gl lf lh le wc2 wr2 A co ro br wc wr turns ln) fun o => yw_rg 264 o.2.2.2.2.2.2.2.2.2.2.2.2.2.2.2.2.2.2.2.2.2.2.2.2.2.2.2.1 ∧ yw_rg 264 o.2.2.2.2.2.2.2.2.2.2.2.2.2.2.2.2.2.2.2.2.2.2.2.2.2.2.2.2.2.2.2.2 := by
  have tin : 0 ≤ t ∧ t ≤ 2147483647 := by obtain ⟨gp, m, ⟨⟨ht, -⟩, -⟩, -⟩ := w; exact ⟨ht.1, by have := ht.2; omega⟩
  unfold zf_Pilot_findByTwo
  obtain ⟨G2, e1, hG⟩ := ze_fill24 (v := x4) (g := G)
  rw [e1, zl_b]
  exact zh_bind (yw_find2a R w2 tin.1 tin.2 n1 n0 hc (fun j j0 j1 => by rw [hG j j0 j1]; exact ⟨q3, q4⟩) hle) fun q6 h6 => zh_bind (yw_find2b R w (by omega) n1 h6.2.1 h6.2.2 hn) fun q13 h13 => zh_ite (fun _ => zh_ret ⟨h6.2.2, h13⟩) fun _ => zh_ret ⟨h6.2.2, h13⟩
theorem yw_byTwoX (R : yl_R L K V nc tS tL sP lP kd fr hf to mc C mk mf mh mt) (k : yk_sky t h u cl sc sr ch co ro br wc wr m) (z : yk_sea ts gp gl m) {s x y n w : Int} {f2 f4 f6 f8 f10 f12 f14 f18 f19 f20 f21 f23 f25 f27 f28 f29 f30 f31 : Int} {g1 g3 g5 g7 g9 g10 g12 g13 g18 g21 g22 g23 g24 g25 : Int → Int} (hle : yw_rg 264 g23) (hn : yw_rg 264 g25) :
    zh_ok (zf_X_byTwo s x y n w ts t f2 h f4 u f6 cl f8 sc f10 sr f12 ch f14 f18 f19 f20 f21 tS f23 nc f25 sP f27 f28 f29 f30 f31 co g1 ro g3 br g5 wc g7 wr g9 g10 gp g12 g13 kd hf to K g18 V gl g21 g22 g23 g24 g25) fun o => yw_rg 264 o.2.2.2.2.2.2.2.2.2.2.2.2.2.2.2.2.2.2.2.2.2.2.2.2.2.2.2.2.2.2.1 ∧ yw_rg 264 o.2.2.2.2.2.2.2.2.2.2.2.2.2.2.2.2.2.2.2.2.2.2.2.2.2.2.2.2.2.2.2.2 := by
  obtain ⟨⟨t1, t2, -⟩, hb⟩ := id z
  unfold zf_X_byTwo
  refine zh_bind (yw_ask t1 (by omega)) fun r1 h1 => zh_ite (fun _ => zh_ret ⟨hle, hn⟩) fun q1 => ?_
  obtain ⟨⟨s0, s1⟩, x0, x1, y0, y1⟩ := h1 q1
  rw [ze_X_isWithin, zl_b]
  refine zh_ite (fun _ => zh_ret ⟨hle, hn⟩) fun q2 => ?_
  rw [ze_X_isWithin, zl_b]
  refine zh_ite (fun _ => zh_ret ⟨hle, hn⟩) fun q3 => ?_
  obtain ⟨n0, n1⟩ := zs_in_ne q2
  unfold zf_Sky_copyFrom
  rw [zl_b]
  dsimp only
  obtain ⟨gA, e0, h0⟩ := ze_open (f := f18) (g := g10)
  rw [e0, zl_b, ze_X_placeOf x0 x1 y0 y1, zl_b]
  have hp := hb s s0 s1
  have k2 : yk_sky t h u cl sc sr ch (zv_cpy co g1 24) (zv_cpy ro g3 24) (zv_cpy br g5 24) (zv_cpy wc g7 24) (zv_cpy wr g9 24) m := yk_sky_cg k (fun j j1 j2 => zv_cpy_in j2) (fun j j1 j2 => zv_cpy_in j2) (fun j j1 j2 => zv_cpy_in j2) (fun j j1 j2 => zv_cpy_in j2) (fun j j1 j2 => zv_cpy_in j2) (fun _ _ _ => rfl)
  exact zh_cond (zi_ix_of s0 s1) (zh_bind (yw_find2 R ⟨gp, m, k, z⟩ ⟨gp, m, k2, z⟩ hp.1 hp.2 (by omega) n1 yv_ca0 hle hn) fun r11 h11 => zh_ite (fun _ => zh_ret h11) fun _ => zh_ite (fun _ => zh_ret h11) fun _ => zh_ite (fun _ => zh_ret h11) fun _ => zh_ite (fun _ => zh_ret h11) fun _ => zh_ret h11)
end YWF2
end
