/-! named: both sides answer. -/
section YWN
variable {L : zLW} {K V kd fr hf to C mk mf mh mt : Int → Int} {nc tS tL sP lP mc : Int} {t h u cl sc sr ch : Int} {co ro br wc wr m : Int → Int} {T M : Int → Int}
theorem yw_pairs {i n : Int} {g : Int → Int} (n0 : 0 ≤ n) (n1 : n ≤ 8) : zh_ok (zf_Chooser_pairsApart i n g) fun _ => True := by
  refine zh_bind (Q := fun _ => True) (zh_loop (F := fun f j (a : Int × Int) => zf_Chooser_pairsApart_l0 i n g f a.1 a.2 j) (N := n) (I := fun _ _ => True) (fun f j a j0 j1 _ kk => ?_) 8 0 (0, 0) zi_fu (by omega) (by decide) n0 (by decide) trivial) fun _ _ => zh_ret trivial
  show zh_ok (zf_Chooser_pairsApart_l0_b i n g (zf_Chooser_pairsApart_l0 i n g f) a.1 a.2 j) _
  unfold zf_Chooser_pairsApart_l0_b
  refine zh_ite (fun hi => ?_) fun _ => zh_ret trivial
  rw [zi_w_id (x := j + 1) (by omega) (by omega)]
  refine zh_bind (Q := fun _ => True) (zh_loop (F := fun f q (a : Int × Int) => zf_Chooser_pairsApart_l1 i j g f a.1 a.2 q) (N := j) (I := fun _ _ => True) (fun f q a q0 q1 _ k2 => ?_) 8 0 (a.1, a.2) zi_fu (by omega) (by decide) j0 (by decide) trivial) fun o _ => kk (_, _) hi trivial
  show zh_ok (zf_Chooser_pairsApart_l1_b i j g (zf_Chooser_pairsApart_l1 i j g f) a.1 a.2 q) _
  unfold zf_Chooser_pairsApart_l1_b
  refine zh_ite (fun hq => ?_) fun _ => zh_ret trivial
  rw [zi_w_id (x := q + 1) (by omega) (by omega)]
  have k3 : ∀ x y, zh_ok (zf_Chooser_pairsApart_l1 i j g f x y (q + 1)) _ := fun x y => k2 (x, y) hq trivial
  exact zh_cond (zi_ix_of j0 (by omega)) (zh_cond (zi_ix_of q0 (by omega)) (zh_ite (fun _ => k3 _ _) fun _ => k3 _ _))
theorem yw_cover {g0 g1 : Int → Int} : ∀ (n w : Nat) (x1 x2 x3 : Int), x1 < n → x1 ≤ 100 → 0 < n → zh_ok (zg_Chooser_leastCover n w x1 x2 x3 g0 g1) fun _ => True := by
  intro n
  induction n with
  | zero => intro w x1 x2 x3 h h2 h3; omega
  | succ n ih =>
    intro w x1 x2 x3 h h2 h3
    show zh_ok (zm_Chooser_leastCover (zg_Chooser_leastCover n) x1 x2 x3 g0 g1) _
    unfold zm_Chooser_leastCover
    refine zh_ite (fun hx => ?_) fun _ => zh_ite (fun _ => zh_ret trivial) fun _ => zh_ret trivial
    refine zh_sum (Q := fun _ => True) (zh_loop (F := fun f i (_ : Unit) => zm_Chooser_leastCover_l0 (zg_Chooser_leastCover n) x1 x2 x3 g0 g1 f i) (N := 24) (I := fun _ _ => True) (fun f i a i0 i1 _ kk => ?_) 24 0 () zi_fu (by decide) (by decide) (by decide) (by decide) trivial) (fun _ _ => zh_ret trivial) fun _ _ => zh_ret trivial
    show zh_ok (zm_Chooser_leastCover_l0_b (zg_Chooser_leastCover n) x1 x2 x3 g0 g1 (zm_Chooser_leastCover_l0 (zg_Chooser_leastCover n) x1 x2 x3 g0 g1 f) i) _
    unfold zm_Chooser_leastCover_l0_b
    refine zh_ite (fun _ => zh_ite (fun hi => ?_) fun _ => zh_ret trivial) fun _ => zh_ret trivial
    rw [zi_w_id (x := i + 1) (by omega) (by omega), zi_w_id (x := x1 - 1) (by omega) (by omega)]
    exact zh_cond (zi_ix_of i0 (by omega)) (zh_ite (fun _ => kk () hi trivial) fun _ => zh_ite (fun _ => zh_bind (ih 0 (x1 - 1) _ _ (by omega) (by omega) (by omega)) fun r _ => zh_ite (fun _ => kk () hi trivial) fun _ => zh_ret trivial) fun _ => kk () hi trivial)
theorem yw_fewN {n : Int} {g0 g1 g2 : Int → Int} (n0 : 0 ≤ n) (n1 : n ≤ 8) : zh_ok (zf_Chooser_fewestNamed n g0 g1 g2) fun _ => True := by
  unfold zf_Chooser_fewestNamed
  rw [ze_Math_min, zl_b, show (if 8 < n then (8 : Int) else n) = n from if_neg (by omega)]
  refine zh_bind (Q := fun _ => True) (zh_loop (F := fun f i (a : Int × (Int → Int) × (Int → Int)) => zf_Chooser_fewestNamed_l0 n g1 f a.1 i a.2.1 a.2.2) (N := 24) (I := fun _ _ => True) (fun f i a i0 i1 _ kk => ?_) 24 0 (0, g0, g2) zi_fu (by decide) (by decide) (by decide) (by decide) trivial) fun q10 _ => zh_bind zh_bc fun r11 _ => zh_ite (fun _ => zh_sum (Q := fun _ => True) (zh_loop (F := fun f i (_ : Unit) => zf_Chooser_fewestNamed_l2 n q10.1 q10.2.1 q10.2.2 f i) (N := 9) (I := fun _ _ => True) (fun f i a i0 i1 _ kk => ?_) 9 1 () zi_fu (by decide) (by decide) (by decide) (by decide) trivial) (fun _ _ => zh_ret trivial) fun _ _ => zh_ret trivial) fun _ => zh_ret trivial
  · show zh_ok (zf_Chooser_fewestNamed_l0_b n g1 (zf_Chooser_fewestNamed_l0 n g1 f) a.1 i a.2.1 a.2.2) _
    unfold zf_Chooser_fewestNamed_l0_b
    refine zh_ite (fun hi => ?_) fun _ => zh_ret trivial
    rw [zi_w_id (x := i + 1) (by omega) (by omega)]
    refine zh_bind (yw_pairs n0 n1) fun r3 _ => zh_cond (zi_ix_of i0 (by omega)) (zh_bind (Q := fun _ => True) (zh_loop (F := fun f j (a : Int → Int) => zf_Chooser_fewestNamed_l1 i f j a) (N := i) (I := fun _ _ => True) (fun f j a j0 j1 _ k2 => ?_) 24 0 _ zi_fu (by omega) (by decide) i0 (by decide) trivial) fun q9 _ => kk (_, _, _) hi trivial)
    show zh_ok (zf_Chooser_fewestNamed_l1_b i (zf_Chooser_fewestNamed_l1 i f) j a) _
    unfold zf_Chooser_fewestNamed_l1_b
    refine zh_ite (fun hj => ?_) fun _ => zh_ret trivial
    rw [zi_w_id (x := j + 1) (by omega) (by omega)]
    exact zh_cond (zi_ix_of j0 (by omega)) (zh_cond (zi_ix_of i0 (by omega)) (zh_ite (fun _ => k2 _ hj trivial) fun _ => k2 _ hj trivial))
  · show zh_ok (zf_Chooser_fewestNamed_l2_b n q10.1 q10.2.1 q10.2.2 (zf_Chooser_fewestNamed_l2 n q10.1 q10.2.1 q10.2.2 f) i) _
    unfold zf_Chooser_fewestNamed_l2_b
    refine zh_ite (fun hi => ?_) fun _ => zh_ret trivial
    rw [zi_w_id (x := i + 1) (by omega) (by omega)]
    exact zh_bind (yw_cover 9 0 i 24 _ (by omega) (by omega) (by decide)) fun r14 _ => zh_ite (fun _ => kk () (by omega) trivial) fun _ => zh_ret trivial
theorem yw_namedX (R : yl_R L K V nc tS tL sP lP kd fr hf to mc C mk mf mh mt) (k : yk_sky t h u cl sc sr ch co ro br wc wr m) (hT : yk_T T M) {a w n f4 f5 f6 f9 f15 f17 : Int} {g0 g2 g10 g12 g13 g14 : Int → Int} :
    zh_ok (zf_X_named a w n f4 f5 f6 h u f9 t sc sr cl tS f15 nc f17 sP g0 T g2 co ro br kd hf to K g10 V g12 g13 g14) fun o => o.2.1 = if zs_in a 2 8 = 0 then n else if zs_in w 0 1 = 0 then n else if n < 2 * a then n else 0 := by
  unfold zf_X_named
  rw [ze_X_isWithin, zl_b]
  refine zh_ite (fun q => zh_ret (by rw [if_pos q])) fun q => ?_
  rw [if_neg q, ze_X_isWithin, zl_b]
  obtain ⟨a1, a2⟩ := zs_in_ne q
  refine zh_ite (fun q2 => zh_ret (by rw [if_pos q2])) fun q2 => ?_
  rw [if_neg q2, zi_w_id (x := 2 * a) (by omega) (by omega)]
  unfold zf_Tape_take
  by_cases c : n < 2 * a
  · rw [if_pos c, zl_b, if_pos rfl, if_pos c]
    exact zh_ret rfl
  rw [if_neg c, zl_b, if_neg (show ¬ (1 : Int) = 0 by decide), if_neg c]
  obtain ⟨g0', e0, h0⟩ := ze_open (f := f4) (g := g0)
  rw [e0, zl_b]
  dsimp only
  refine zh_sum (Q := fun q => match q with
    | .inl _ => True
    | .inr b => b.2.1 = 0) (zh_loop (F := fun n i (b : Int × Int × Int × Int × Int × Int × (Int → Int) × (Int → Int) × (Int → Int)) => zf_X_named_l0 a 0 h u t sc sr cl tS nc sP g0' T co ro br kd hf to K V g13 g14 n i b.1 b.2.1 b.2.2.1 b.2.2.2.1 b.2.2.2.2.1 b.2.2.2.2.2.1 b.2.2.2.2.2.2.1 b.2.2.2.2.2.2.2.1 b.2.2.2.2.2.2.2.2) (N := a)
      (I := fun _ b => yv_ca L sP h u co ro br b.1 b.2.2.2.2.1) (fun n i b i0 i1 hb kk => ?_) 8 0 (0, f5, f6, f9, f15, f17, g2, g10, g12) zi_fu (by omega) (by decide) (by omega) (by decide) yv_ca0) (fun b _ => zh_bind (yw_fewN (by omega) (by omega)) fun r _ => zh_ite (fun _ => zh_ret rfl) fun _ => zh_ite (fun _ => zh_bind zh_bc fun _ _ => zh_ret rfl) fun _ => zh_ret rfl) fun b hb => zh_ret hb
  obtain ⟨b1, b2, b3, b4, b5, b6, b7, b8, b9⟩ := b
  have hb : yv_ca L sP h u co ro br b1 b5 := hb
  show zh_ok (zf_X_named_l0_b a 0 h u t sc sr cl tS nc sP g0' T co ro br kd hf to K V g13 g14 (zf_X_named_l0 a 0 h u t sc sr cl tS nc sP g0' T co ro br kd hf to K V g13 g14 n) i b1 b2 b3 b4 b5 b6 b7 b8 b9) _
  unfold zf_X_named_l0_b
  refine zh_ite (fun hi => ?_) fun _ => zh_ret trivial
  rw [zi_w_id (x := 2 * i) (by omega) (by omega), zi_w_id (x := 2 * i + 1) (by omega) (by omega), zi_w_id (x := i + 1) (by omega) (by omega), ze_byteAt (by omega) (by omega), zl_b, ze_byteAt (by omega) (by omega), zl_b, ze_X_isPlace, zl_b]
  refine zh_ite (fun _ => zh_ret rfl) fun q3 => ?_
  obtain ⟨x1, x2, y1, y2⟩ := zs_pl_ne q3
  obtain ⟨s', as', ho', a', g', S', e1, -, c1⟩ := yx_look (f2 := b2) (f3 := b3) (f6 := b4) (f := b6) (g := b7) (S := b8) (x := T (2 * i)) (y := T (2 * i + 1)) R k x1 (by omega) y1 (by omega) hb
  rw [e1, zl_b]
  dsimp only
  have k2 : ∀ d1 d2 d3 d4 d5 d6 d7 d8 d9, yv_ca L sP h u co ro br d1 d5 → zh_ok (zf_X_named_l0 a 0 h u t sc sr cl tS nc sP g0' T co ro br kd hf to K V g13 g14 n (i + 1) d1 d2 d3 d4 d5 d6 d7 d8 d9) _ := fun d1 d2 d3 d4 d5 d6 d7 d8 d9 q => kk (d1, d2, d3, d4, d5, d6, d7, d8, d9) hi q
  exact zh_cond (zi_ix_of i0 (by omega)) (k2 _ _ _ _ _ _ _ _ _ c1)
theorem yw_apart {s f : Int} {g : Int → Int} (f1 : f ≤ 28) : zh_ok (zf_M_tellsApart s f g) fun _ => True := by
  unfold zf_M_tellsApart
  refine zh_sum (Q := fun _ => True) (zh_loop (F := fun n i (_ : Unit) => zf_M_tellsApart_l0 s f g n i) (N := 28) (I := fun _ _ => True) (fun n i a i0 i1 _ kk => ?_) 28 0 () zi_fu (by decide) (by decide) (by decide) (by decide) trivial) (fun _ _ => zh_ret trivial) fun _ _ => zh_ret trivial
  show zh_ok (zf_M_tellsApart_l0_b s f g (zf_M_tellsApart_l0 s f g n) i) _
  unfold zf_M_tellsApart_l0_b
  refine zh_ite (fun hi => ?_) fun _ => zh_ret trivial
  rw [zi_w_id (x := i + 1) (by omega) (by omega)]
  exact zh_cond (zi_ix_of i0 (by omega)) (zh_ite (fun _ => zh_ret trivial) fun _ => kk () (by omega) trivial)
theorem yw_leastOf {q f : Int} {g0 g1 : Int → Int} (q1 : 1 ≤ q) (q2 : q ≤ 7) (f1 : f ≤ 28) : zh_ok (zf_M_leastOf q f g0 g1) fun _ => True := by
  unfold zf_M_leastOf
  have hst : 0 < zi_w (zi_shl 1 q - 1) := by
    have : ∀ q : Nat, q < 8 → 1 ≤ q → 0 < zi_w (zi_shl 1 (q : Int) - 1) := by decide +kernel
    have h := this q.toNat (by omega) (by omega)
    rwa [Int.toNat_of_nonneg (by omega)] at h
  refine zh_sum (Q := fun _ => True) (zh_loop2 (F := fun n (a : Int) => zf_M_leastOf_l0 f g0 g1 n a) (μ := fun a => (16777216 - a).toNat) (I := fun a => 0 < a) (fun n a ha kk => ?_) 16777216 _ zi_fu (by omega) (by decide) hst) (fun _ _ => zh_ret trivial) fun _ _ => zh_ret trivial
  show zh_ok (zf_M_leastOf_l0_b f g0 g1 (zf_M_leastOf_l0 f g0 g1 n) a) _
  unfold zf_M_leastOf_l0_b
  refine zh_ite (fun hi => zh_ite (fun _ => zh_bind (yw_apart f1) fun r5 _ => zh_ite (fun _ => ?_) fun _ => zh_ret trivial) fun _ => ?_) fun _ => zh_ret trivial
  · exact zw_gos ha hi fun v v1 v2 => kk v (by omega) (by omega)
  · exact zw_gos ha hi fun v v1 v2 => kk v (by omega) (by omega)
theorem yw_places {n : Int} {g : Int → Int} (hT : yk_T T M) (n0 : 0 ≤ n) (n1 : n ≤ 8) : zh_ok (zf_M_takesPlaces n M g) fun o => o.1 = 0 ∨ ∀ j, 0 ≤ j → j < n → 0 ≤ o.2 j ∧ o.2 j < 288 := by
  unfold zf_M_takesPlaces
  refine zh_sum (Q := fun q => match q with
    | .inl a => ∀ j, 0 ≤ j → j < n → 0 ≤ a j ∧ a j < 288
    | .inr b => b.1 = 0) (zh_loop (F := fun f i (a : Int → Int) => zf_M_takesPlaces_l0 n M f i a) (N := n) (I := fun i a => ∀ j, 0 ≤ j → j < i → 0 ≤ a j ∧ a j < 288) (fun f i a i0 i1 ha kk => ?_) 8 0 g zi_fu (by omega) (by decide) n0 (by decide) (fun j j0 j1 => by omega)) (fun a ha => zh_ret (.inr ha)) fun b hb => zh_ret (.inl hb)
  show zh_ok (zf_M_takesPlaces_l0_b n M (zf_M_takesPlaces_l0 n M f) i a) _
  unfold zf_M_takesPlaces_l0_b
  refine zh_ite (fun hi => ?_) fun hi => ?_
  rotate_left
  · obtain rfl : i = n := by omega
    exact zh_ret ha
  obtain ⟨T1, -, -⟩ := hT (2 * i) (by omega) (by omega)
  obtain ⟨T2, -, -⟩ := hT (2 * i + 1) (by omega) (by omega)
  rw [zi_w_id (x := 2 * i) (by omega) (by omega), zi_w_id (x := 2 * i + 1) (by omega) (by omega), zi_w_id (x := i + 1) (by omega) (by omega), T1, T2, ze_M_isPlace, zl_b]
  refine zh_cond (zi_ix_of (by omega) (by omega)) (zh_cond (zi_ix_of (by omega) (by omega)) (zh_ite (fun _ => zh_ret rfl) fun q3 => ?_))
  obtain ⟨x1, x2, y1, y2⟩ := zs_pl_ne q3
  rw [zi_w_id (x := 24 * T (2 * i + 1)) (by omega) (by omega), zi_w_id (x := 24 * T (2 * i + 1) + T (2 * i)) (by omega) (by omega)]
  refine zh_cond (zi_ix_of i0 (by omega)) (zh_sum (Q := fun q => match q with
    | .inl _ => True
    | .inr b => b.1 = 0) (zh_loop (F := fun f j (_ : Unit) => zf_M_takesPlaces_l1 i (zv_up a i (24 * T (2 * i + 1) + T (2 * i))) f j) (N := i) (I := fun _ _ => True) (fun f j _ j0 j1 _ k2 => ?_) 8 0 () zi_fu (by omega) (by decide) i0 (by decide) trivial) (fun _ _ => kk _ hi fun j j0 j1 => ?_) fun b hb => zh_ret hb)
  · show zh_ok (zf_M_takesPlaces_l1_b i (zv_up a i (24 * T (2 * i + 1) + T (2 * i))) (zf_M_takesPlaces_l1 i (zv_up a i (24 * T (2 * i + 1) + T (2 * i))) f) j) _
    unfold zf_M_takesPlaces_l1_b
    refine zh_ite (fun hj => ?_) fun _ => zh_ret trivial
    rw [zi_w_id (x := j + 1) (by omega) (by omega)]
    exact zh_cond (zi_ix_of j0 (by omega)) (zh_cond (zi_ix_of i0 (by omega)) (zh_ite (fun _ => zh_ret rfl) fun _ => k2 () hj trivial))
  · by_cases z : j = i
    · subst z; rw [zv_up_s]; omega
    · rw [zv_up_n z]; exact ha j j0 (by omega)
theorem yw_namedM (R : yl_R L K V nc tS tL sP lP kd fr hf to mc C mk mf mh mt) (k : yk_sky t h u cl sc sr ch co ro br wc wr m) (hT : yk_T T M) {a w n f1 : Int} {g1 g2 g5 g9 : Int → Int} :
    zh_ok (zf_M_named a w n f1 mc M g1 g2 m mk g5 mh mt C g9) fun o => o.2.1 = if zs_in a 2 8 = 0 then n else if zs_in w 0 1 = 0 then n else if n < 2 * a then n else 0 := by
  unfold zf_M_named
  rw [ze_M_in, zl_b]
  refine zh_ite (fun q => zh_ret (by rw [if_pos q])) fun q => ?_
  rw [if_neg q, ze_M_in, zl_b]
  obtain ⟨a1, a2⟩ := zs_in_ne q
  refine zh_ite (fun q2 => zh_ret (by rw [if_pos q2])) fun q2 => ?_
  rw [if_neg q2, zi_w_id (x := 2 * a) (by omega) (by omega)]
  refine zh_ite (fun c => zh_ret (by rw [if_pos c])) fun c => ?_
  rw [if_neg c]
  refine zh_bind (yw_places hT (by omega) (by omega)) fun r6 h6 => zh_ite (fun _ => zh_ret rfl) fun hne => ?_
  have h6 := h6.resolve_left hne
  refine zh_sum (Q := fun q => match q with
    | .inl b => b.1 ≤ 28
    | .inr b => b.2.1 = 0) (zh_loop (F := fun f i (b : Int × (Int → Int) × (Int → Int) × (Int → Int)) => zf_M_named_l0 a 0 mc r6.2 m mk mh mt C f i b.1 b.2.1 b.2.2.1 b.2.2.2) (N := a) (I := fun i b => 0 ≤ b.1 ∧ 2 * b.1 ≤ i * (15 - i)) (fun f i b i0 i1 hb kk => ?_) 8 0 (0, g2, g5, g9) zi_fu (by omega) (by decide) (by omega) (by decide) ⟨Int.le_refl 0, Int.le_refl 0⟩) (fun b hb => ?_) fun b hb => zh_ret hb
  · obtain ⟨b1, b2, b3, b4⟩ := b
    obtain ⟨hb0, hb⟩ := hb
    have hb0 : 0 ≤ b1 := hb0
    have hb : 2 * b1 ≤ i * (15 - i) := hb
    show zh_ok (zf_M_named_l0_b a 0 mc r6.2 m mk mh mt C (zf_M_named_l0 a 0 mc r6.2 m mk mh mt C f) i b1 b2 b3 b4) _
    unfold zf_M_named_l0_b
    have hcs : i = 0 ∨ i = 1 ∨ i = 2 ∨ i = 3 ∨ i = 4 ∨ i = 5 ∨ i = 6 ∨ i = 7 ∨ i = 8 := by omega
    refine zh_ite (fun hi => ?_) fun hi => ?_
    rotate_left
    · refine zh_ret ?_
      show b1 ≤ 28
      rcases hcs with e | e | e | e | e | e | e | e | e <;> subst e <;> omega
    obtain ⟨c2, hc2⟩ : ∃ c, c = i * (15 - i) := ⟨_, rfl⟩
    have hc3 : c2 + 2 * (7 - i) ≤ 56 := by
      rcases hcs with e | e | e | e | e | e | e | e | e <;> subst e <;> omega
    have hc4 : (i + 1) * (15 - (i + 1)) = c2 + 14 - 2 * i := by
      rcases hcs with e | e | e | e | e | e | e | e | e <;> subst e <;> omega
    rw [← hc2] at hb
    rw [zi_w_id (x := i + 1) (by omega) (by omega)]
    refine zh_sum (Q := fun q => match q with
      | .inl b => 0 ≤ b.1 ∧ 2 * b.1 ≤ c2 + 14 - 2 * i
      | .inr b => b.2.1 = 0) (zh_loop (F := fun f j (b : Int × (Int → Int) × (Int → Int) × (Int → Int)) => zf_M_named_l1 a i 0 mc r6.2 m mk mh mt C f j b.1 b.2.1 b.2.2.1 b.2.2.2) (N := a) (I := fun j b => i < j ∧ 0 ≤ b.1 ∧ 2 * b.1 ≤ c2 + 2 * (j - i - 1)) (fun f j b j0 j1 hb kk2 => ?_) 8 (i + 1) (b1, b2, b3, b4) zi_fu (by omega) (by omega) (by omega) (by decide) ⟨by omega, hb0, by show 2 * b1 ≤ c2 + 2 * (i + 1 - i - 1); omega⟩) (fun b hb => kk (b.1, b.2.1, b.2.2.1, b.2.2.2) hi ⟨hb.1, by show 2 * b.1 ≤ (i + 1) * (15 - (i + 1)); rw [hc4]; exact hb.2⟩) fun b hb => zh_ret hb
    obtain ⟨d1, d2, d3, d4⟩ := b
    obtain ⟨hd, hd0, hd1⟩ := hb
    have hd0 : 0 ≤ d1 := hd0
    have hd1 : 2 * d1 ≤ c2 + 2 * (j - i - 1) := hd1
    show zh_ok (zf_M_named_l1_b a i 0 mc r6.2 m mk mh mt C (zf_M_named_l1 a i 0 mc r6.2 m mk mh mt C f) j d1 d2 d3 d4) _
    unfold zf_M_named_l1_b
    refine zh_ite (fun hj => ?_) fun hj => zh_ret ⟨hd0, by show 2 * d1 ≤ c2 + 14 - 2 * i; omega⟩
    obtain ⟨p1, p2⟩ := h6 i i0 hi
    obtain ⟨q1, q2⟩ := h6 j (by omega) hj
    obtain ⟨s', g', S', e1, -⟩ := ym_seen (g := d3) (S := d4) R k p1 p2
    obtain ⟨s2, g3, S3, e2, -⟩ := ym_seen (g := g') (S := S') R k q1 q2
    rw [zl_ci i0 (by omega), e1, zl_b]
    dsimp only
    rw [zl_ci (a := j) (by omega) (by omega), e2, zl_b, zi_w_id (x := j + 1) (by omega) (by omega), zi_w_id (x := d1 + 1) (by omega) (by omega)]
    exact zh_cond (zi_ix_of hd0 (by omega)) (zh_ite (fun _ => zh_ret rfl) fun _ => kk2 (_, _, _, _) hj ⟨by omega, by show 0 ≤ d1 + 1; omega, by show 2 * (d1 + 1) ≤ c2 + 2 * (j + 1 - i - 1); omega⟩)
  · obtain ⟨b1, b2, b3, b4⟩ := b
    have hb : b1 ≤ 28 := hb
    refine zh_sum (Q := fun q => match q with
      | .inl _ => True
      | .inr b => b.2.1 = 0) (zh_loop (F := fun f i (_ : Unit) => zf_M_named_l2 a w 0 b1 r6.2 b2 m b3 b4 f i) (N := a) (I := fun i _ => 1 ≤ i) (fun f i _ i0 i1 hi1 kk => ?_) 8 1 () zi_fu (by omega) (by decide) (by omega) (by decide) (by decide)) (fun _ _ => zh_ret rfl) fun b hb => zh_ret hb
    show zh_ok (zf_M_named_l2_b a w 0 b1 r6.2 b2 m b3 b4 (zf_M_named_l2 a w 0 b1 r6.2 b2 m b3 b4 f) i) _
    unfold zf_M_named_l2_b
    refine zh_ite (fun hi => ?_) fun _ => zh_ret trivial
    rw [zi_w_id (x := i + 1) (by omega) (by omega)]
    exact zh_bind (yw_leastOf hi1 (by omega) hb) fun r22 _ => zh_ite (fun _ => kk () hi (by omega)) fun _ => zh_ite (fun _ => zh_ret rfl) fun _ => zh_ret rfl
end YWN
