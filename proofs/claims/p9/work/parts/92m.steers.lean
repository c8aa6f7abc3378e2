/-! fastest, byTwo: both sides answer. -/
section YWS
variable {L : zLW} {K V kd fr hf to C mk mf mh mt : Int → Int} {nc tS tL sP lP mc : Int} {t h u cl sc sr ch ts p i s : Int} {co ro br wc wr m gp gl : Int → Int}
def yw_rg (N : Int) (g : Int → Int) : Prop := ∀ j, 0 ≤ j → j < N → 0 ≤ g j ∧ g j < 288
theorem yw_rg_up {N k v : Int} {g : Int → Int} (h : yw_rg N g) (v0 : 0 ≤ v) (v1 : v < 288) : yw_rg N (zv_up g k v) := fun j j0 j1 => by
  by_cases e : j = k
  · subst e; rw [zv_up_s]; exact ⟨v0, v1⟩
  · rw [zv_up_n e]; exact h j j0 j1
def yw_mo (t cl sc sr ch ts : Int) (br wc wr gl m : Int → Int) : Prop := ∃ h u co ro gp, yk_sky t h u cl sc sr ch co ro br wc wr m ∧ yk_sea ts gp gl m
theorem yw_mo_cg {m2 : Int → Int} (h : yw_mo t cl sc sr ch ts br wc wr gl m) (e : ∀ j, 0 ≤ j → j < 422 → m2 j = m j) : yw_mo t cl sc sr ch ts br wc wr gl m2 := by
  obtain ⟨h, u, co, ro, gp, k, z⟩ := h
  exact ⟨h, u, co, ro, gp, yk_sky_cg k (fun _ _ _ => rfl) (fun _ _ _ => rfl) (fun _ _ _ => rfl) (fun _ _ _ => rfl) (fun _ _ _ => rfl) e, yk_sea_cg z (fun _ _ _ => rfl) (fun _ _ _ => rfl) e⟩
theorem ym_steer (R : yl_R L K V nc tS tL sP lP kd fr hf to mc C mk mf mh mt) (hm : yw_mo t cl sc sr ch ts br wc wr gl m) (s0 : 0 ≤ s) (s1 : s < 6) (i1 : 0 ≤ i) (i2 : i < 24) (hti : zb t i.toNat = true) {g S : Int → Int} :
    zh_ok (zf_M_steers s i 0 mc m mk g mh mt C S mf) fun o => yw_mo t cl sc sr ch ts br wc wr gl o.1 := by
  obtain ⟨h, u, co, ro, gp, k, z⟩ := hm
  obtain ⟨p1, p2⟩ := z.2 s s0 s1
  obtain ⟨-, -, -, -, -, -, -, ki⟩ := id k
  obtain ⟨⟨-, ⟨r1, r2⟩, -⟩, -, -⟩ := ki i i1 i2
  obtain ⟨g', S', e1⟩ := ym_steersFrom (g := g) (S := S) R k z p1 p2 i1 i2 hti
  have hq : 0 ≤ (if yv_see L tS h u cl sc sr co ro br (gp s % 24) (gp s / 24) i = true then yg_st gl (gp s) (yg_tr (gp s % 24) (yv_st h co i)) (ro i - gp s / 24) else gp s) ∧ (if yv_see L tS h u cl sc sr co ro br (gp s % 24) (gp s / 24) i = true then yg_st gl (gp s) (yg_tr (gp s % 24) (yv_st h co i)) (ro i - gp s / 24) else gp s) < 288 := by
    split
    · exact yg_st_in p1 p2 (by omega) (by omega)
    · exact ⟨p1, p2⟩
  generalize (if yv_see L tS h u cl sc sr co ro br (gp s % 24) (gp s / 24) i = true then yg_st gl (gp s) (yg_tr (gp s % 24) (yv_st h co i)) (ro i - gp s / 24) else gp s) = q at e1 hq
  have z2 := yk_sea_up z s0 s1 hq.1 hq.2
  have k2 : yk_sky t h u cl sc sr ch co ro br wc wr (zv_up m (120 + s) q) := yk_sky_fr k fun j hj => zv_up_n (by omega)
  obtain ⟨h', u', co', ro', m', e2, e3, k3, e4⟩ := yk_pass k2
  have z3 : yk_sea ts (zv_up gp s q) gl m' := yk_sea_fr z2 fun j hj => e4 j (by omega) (by omega) (by omega)
  unfold zf_M_steers
  rw [if_pos rfl, zi_w_id (x := 120 + s) (by omega) (by omega), zl_ci (by omega) (by omega), z.1.2.2.2.1 s s0 s1, e1, zl_b]
  dsimp only
  rw [e3, zl_b]
  exact zh_ret ⟨h', u', co', ro', _, k3, z3⟩
theorem yw_comesBy (R : yl_R L K V nc tS tL sP lP kd fr hf to mc C mk mf mh mt) (hm : yw_mo t cl sc sr ch ts br wc wr gl m) (s0 : 0 ≤ s) (s1 : s < 6) (i1 : 0 ≤ i) (i2 : i < 24) (hti : zb t i.toNat = true) {n : Int} (n0 : 0 ≤ n) (n1 : n ≤ 48) {g S : Int → Int} :
    zh_ok (zf_M_comesBy s i p n mc m mk g mh mt C S mf) fun o => yw_mo t cl sc sr ch ts br wc wr gl o.2.1 := by
  unfold zf_M_comesBy
  refine zh_sum (Q := fun q => match q with
    | .inl a => yw_mo t cl sc sr ch ts br wc wr gl a.1
    | .inr b => yw_mo t cl sc sr ch ts br wc wr gl b.2.1) (zh_loop (F := fun f j (a : (Int → Int) × (Int → Int) × (Int → Int)) => zf_M_comesBy_l0 s i p n mc mk mh mt C mf f j a.1 a.2.1 a.2.2) (N := n + 1) (I := fun _ a => yw_mo t cl sc sr ch ts br wc wr gl a.1) (fun f j a j0 j1 ha kk => ?_) 49 0 (m, g, S) zi_fu (by omega) (by decide) (by omega) (by decide) hm) (fun a ha => zh_ret ha) fun b hb => zh_ret hb
  show zh_ok (zf_M_comesBy_l0_b s i p n mc mk mh mt C mf (zf_M_comesBy_l0 s i p n mc mk mh mt C mf f) j a.1 a.2.1 a.2.2) _
  unfold zf_M_comesBy_l0_b
  refine zh_ite (fun _ => zh_ret ha) fun hj => ?_
  rw [zi_w_id (x := 120 + s) (by omega) (by omega), zi_w_id (x := j + 1) (by omega) (by omega)]
  exact zh_cond (zi_ix_of (by omega) (by omega)) (zh_ite (fun _ => zh_ret ha) fun _ => zh_ite (fun _ => zh_bind (ym_steer R ha s0 s1 i1 i2 hti) fun r5 h5 => kk (_, _, _) (by omega) h5) fun _ => kk (_, _, _) (by omega) ha)
theorem yw_fastestM (R : yl_R L K V nc tS tL sP lP kd fr hf to mc C mk mf mh mt) (k : yk_sky t h u cl sc sr ch co ro br wc wr m) (z : yk_sea ts gp gl m) {x y n w : Int} {aA g S : Int → Int} :
    zh_ok (zf_M_fastest s x y n w mc m aA mk g mh mt C S mf) fun o => ∀ j, 0 ≤ j → j < 422 → o.2.1 j = m j := by
  obtain ⟨⟨ht, k126⟩, -⟩ := id k
  obtain ⟨⟨t1, t2, e127, -⟩, hb⟩ := id z
  have tin : 0 ≤ t ∧ t ≤ 2147483647 := ⟨ht.1, by have := ht.2; omega⟩
  unfold zf_M_fastest
  rw [ze_M_isShip (by omega) (by omega), zl_b, e127]
  refine zh_ite (fun _ => zh_ret fun _ _ _ => rfl) fun q1 => ?_
  rw [ze_M_isPlace, zl_b]
  refine zh_ite (fun _ => zh_ret fun _ _ _ => rfl) fun q2 => ?_
  rw [ze_M_in, zl_b]
  refine zh_ite (fun _ => zh_ret fun _ _ _ => rfl) fun q3 => ?_
  rw [ze_M_in, zl_b]
  refine zh_ite (fun _ => zh_ret fun _ _ _ => rfl) fun q4 => zh_ite (fun _ => zh_ret fun _ _ _ => rfl) fun q5 => ?_
  obtain ⟨s0, s1, -⟩ := zs_has_ne q1
  obtain ⟨n0, n1⟩ := zs_in_ne q3
  obtain ⟨mA, e1, hA⟩ := ze_begins (g0 := m) (g := aA)
  rw [e1, zl_b, zl_b, zi_w_id (x := 120 + s) (by omega) (by omega)]
  have hmA : yw_mo t cl sc sr ch ts br wc wr gl mA := yw_mo_cg ⟨h, u, co, ro, gp, k, z⟩ hA
  have lp : ∀ a b q, zh_ok (zf_M_fastest_l0 s n q mc mA mk mh mt C mf zi_fu a b 0 m g S) fun _ => True := fun a b q => by
    refine zh_loop (F := fun f i (a : Int × Int × (Int → Int) × (Int → Int) × (Int → Int)) => zf_M_fastest_l0 s n q mc mA mk mh mt C mf f a.1 a.2.1 i a.2.2.1 a.2.2.2.1 a.2.2.2.2) (N := 24) (I := fun _ _ => True) (fun f i a i0 i1 _ kk => ?_) 24 0 (a, b, m, g, S) zi_fu (by decide) (by decide) (by decide) (by decide) trivial
    obtain ⟨a1, a2, a3, a4, a5⟩ := a
    show zh_ok (zf_M_fastest_l0_b s n q mc mA mk mh mt C mf (zf_M_fastest_l0 s n q mc mA mk mh mt C mf f) a1 a2 i a3 a4 a5) _
    unfold zf_M_fastest_l0_b
    refine zh_ite (fun hi => ?_) fun _ => zh_ret trivial
    obtain ⟨mB, e2, hB⟩ := ze_again (g0 := mA) (g := a3)
    have hmB := yw_mo_cg hmA hB
    have b126 : mB 126 = t := by rw [hB 126 (by decide) (by decide), hA 126 (by decide) (by decide), k126]
    rw [e2, zl_b, ze_M_isTold (by rw [b126]; exact tin.1) (by rw [b126]; exact tin.2), b126, zl_b, zi_w_id (x := i + 1) (by omega) (by omega)]
    have k2 : ∀ b1 b2 b3 b4 b5, zh_ok (zf_M_fastest_l0 s n q mc mA mk mh mt C mf f b1 b2 (i + 1) b3 b4 b5) fun _ => True := fun b1 b2 b3 b4 b5 => kk (b1, b2, b3, b4, b5) hi trivial
    refine zh_ite (fun _ => k2 _ _ _ _ _) fun q6 => ?_
    have hti : zb t i.toNat = true := by
      by_cases hh : zb t i.toNat = true
      · exact hh
      · exact absurd (zs_has0 tin.1 tin.2 hh) q6
    exact zh_bind (yw_comesBy R hmB s0 s1 i0 hi hti (by omega) (by omega)) fun r18 _ => zh_ite (fun _ => k2 _ _ _ _ _) fun _ => zh_ite (fun _ => k2 _ _ _ _ _) fun _ => zh_ite (fun _ => zh_ite (fun _ => k2 _ _ _ _ _) fun _ => k2 _ _ _ _ _) fun _ => k2 _ _ _ _ _
  have fin : ∀ m2, ∃ m3, zf_M_again mA m2 = some m3 ∧ ∀ j, 0 ≤ j → j < 422 → m3 j = m j := fun m2 => by
    obtain ⟨m3, e3, h3⟩ := ze_again (g0 := mA) (g := m2)
    exact ⟨m3, e3, fun j j0 j1 => by rw [h3 j j0 j1, hA j j0 j1]⟩
  refine zh_cond (zi_ix_of (by omega) (by omega)) (zh_ite (fun _ => zh_bind (lp _ _ _) fun q28 _ => ?_) fun _ => zh_bind (lp _ _ _) fun q28 _ => ?_)
  · obtain ⟨m3, e3, h3⟩ := fin q28.2.2.1
    rw [e3, zl_b]
    exact zh_ite (fun _ => zh_ret h3) fun _ => zh_ite (fun _ => zh_ret h3) fun _ => zh_ret h3
  · obtain ⟨m3, e3, h3⟩ := fin q28.2.2.1
    rw [e3, zl_b]
    exact zh_ite (fun _ => zh_ret h3) fun _ => zh_ite (fun _ => zh_ret h3) fun _ => zh_ret h3
theorem yw_comesTwo (R : yl_R L K V nc tS tL sP lP kd fr hf to mc C mk mf mh mt) {mA m1 : Int → Int} (hm : yw_mo t cl sc sr ch ts br wc wr gl mA) (s0 : 0 ≤ s) (s1 : s < 6) {a b q v w : Int} (a0 : 0 ≤ a) (a1 : a < 24) (ha : zb t a.toNat = true) (b0 : 0 ≤ b) (b1 : b < 24) (hb : zb t b.toNat = true) (v0 : 0 ≤ v) (v1 : v ≤ 12) (w0 : 0 ≤ w) (w1 : w ≤ 12) {g S : Int → Int} :
    zh_ok (zf_M_comesByTwo s q a v b w mc mA m1 mk g mh mt C S mf) fun _ => True := by
  unfold zf_M_comesByTwo
  obtain ⟨mB, e2, hB⟩ := ze_again (g0 := mA) (g := m1)
  rw [e2, zl_b]
  refine zh_bind (Q := fun q => yw_mo t cl sc sr ch ts br wc wr gl q.1) (zh_loop (F := fun f j (c : (Int → Int) × (Int → Int) × (Int → Int)) => zf_M_comesByTwo_l0 s a v mc mk mh mt C mf f j c.1 c.2.1 c.2.2) (N := v) (I := fun _ c => yw_mo t cl sc sr ch ts br wc wr gl c.1) (fun f j c j0 j1 hc kk => ?_) 12 0 (mB, g, S) zi_fu (by omega) (by decide) v0 (by decide) (yw_mo_cg hm hB)) fun q4 h4 => zh_bind (Q := fun q => yw_mo t cl sc sr ch ts br wc wr gl q.1) (zh_loop (F := fun f j (c : (Int → Int) × (Int → Int) × (Int → Int)) => zf_M_comesByTwo_l1 s b w mc mk mh mt C mf f j c.1 c.2.1 c.2.2) (N := w) (I := fun _ c => yw_mo t cl sc sr ch ts br wc wr gl c.1) (fun f j c j0 j1 hc kk => ?_) 12 0 (q4.1, q4.2.1, q4.2.2) zi_fu (by omega) (by decide) w0 (by decide) h4) fun q7 _ => ?_
  · show zh_ok (zf_M_comesByTwo_l0_b s a v mc mk mh mt C mf (zf_M_comesByTwo_l0 s a v mc mk mh mt C mf f) j c.1 c.2.1 c.2.2) _
    unfold zf_M_comesByTwo_l0_b
    refine zh_ite (fun hj => ?_) fun _ => zh_ret hc
    rw [zi_w_id (x := j + 1) (by omega) (by omega)]
    exact zh_bind (ym_steer R hc s0 s1 a0 a1 ha) fun r3 h3 => kk (_, _, _) hj h3
  · show zh_ok (zf_M_comesByTwo_l1_b s b w mc mk mh mt C mf (zf_M_comesByTwo_l1 s b w mc mk mh mt C mf f) j c.1 c.2.1 c.2.2) _
    unfold zf_M_comesByTwo_l1_b
    refine zh_ite (fun hj => ?_) fun _ => zh_ret hc
    rw [zi_w_id (x := j + 1) (by omega) (by omega)]
    exact zh_bind (ym_steer R hc s0 s1 b0 b1 hb) fun r3 h3 => kk (_, _, _) hj h3
  · rw [zi_w_id (x := 120 + s) (by omega) (by omega)]
    exact zh_cond (zi_ix_of (by omega) (by omega)) (zh_ite (fun _ => zh_ret trivial) fun _ => zh_ret trivial)
theorem yw_laysTwo (R : yl_R L K V nc tS tL sP lP kd fr hf to mc C mk mf mh mt) {mA m1 : Int → Int} (hm : yw_mo t cl sc sr ch ts br wc wr gl mA) (ht : mA 126 = t) (s0 : 0 ≤ s) (s1 : s < 6) {q n f1 f2 f3 f4 : Int} (n0 : 2 ≤ n) (n1 : n ≤ 12) {g S : Int → Int} :
    zh_ok (zf_M_laysTwo s q n mc f1 f2 f3 f4 mA m1 mk g mh mt C S mf) fun _ => True := by
  unfold zf_M_laysTwo
  refine zh_sum (Q := fun _ => True) (zh_loop (F := fun f j (c : (Int → Int) × (Int → Int) × (Int → Int)) => zf_M_laysTwo_l0 s q n mc mA mk mh mt C mf f j c.1 c.2.1 c.2.2) (N := n + 1) (I := fun j _ => 2 ≤ j) (fun f j c j0 j1 hj2 kk => ?_) 12 2 (m1, g, S) zi_fu (by omega) (by decide) (by omega) (by decide) (Int.le_refl 2)) (fun _ _ => zh_ret trivial) fun _ _ => zh_ret trivial
  show zh_ok (zf_M_laysTwo_l0_b s q n mc mA mk mh mt C mf (zf_M_laysTwo_l0 s q n mc mA mk mh mt C mf f) j c.1 c.2.1 c.2.2) _
  unfold zf_M_laysTwo_l0_b
  refine zh_ite (fun _ => zh_ret trivial) fun hj => ?_
  rw [zi_w_id (x := j + 1) (by omega) (by omega)]
  refine zh_sum (Q := fun _ => True) (zh_loop (F := fun f a (c : (Int → Int) × (Int → Int) × (Int → Int)) => zf_M_laysTwo_l1 s q j mc mA mk mh mt C mf f a c.1 c.2.1 c.2.2) (N := 24) (I := fun _ _ => True) (fun f a c a0 a1 _ k2 => ?_) 24 0 (_, _, _) zi_fu (by decide) (by decide) (by decide) (by decide) trivial) (fun c _ => kk (_, _, _) (by omega) (by omega)) fun _ _ => zh_ret trivial
  show zh_ok (zf_M_laysTwo_l1_b s q j mc mA mk mh mt C mf (zf_M_laysTwo_l1 s q j mc mA mk mh mt C mf f) a c.1 c.2.1 c.2.2) _
  unfold zf_M_laysTwo_l1_b
  refine zh_ite (fun ha => ?_) fun _ => zh_ret trivial
  rw [zi_w_id (x := a + 1) (by omega) (by omega)]
  refine zh_sum (Q := fun _ => True) (zh_loop (F := fun f v (c : (Int → Int) × (Int → Int) × (Int → Int)) => zf_M_laysTwo_l2 s q j a mc mA mk mh mt C mf f v c.1 c.2.1 c.2.2) (N := j) (I := fun v _ => 1 ≤ v) (fun f v c v0 v1 hv1 k3 => ?_) 13 1 (_, _, _) zi_fu (by omega) (by decide) (by omega) (by decide) (Int.le_refl 1)) (fun c _ => k2 (_, _, _) ha trivial) fun _ _ => zh_ret trivial
  show zh_ok (zf_M_laysTwo_l2_b s q j a mc mA mk mh mt C mf (zf_M_laysTwo_l2 s q j a mc mA mk mh mt C mf f) v c.1 c.2.1 c.2.2) _
  unfold zf_M_laysTwo_l2_b
  refine zh_ite (fun hv => ?_) fun _ => zh_ret trivial
  rw [zi_w_id (x := v + 1) (by omega) (by omega), ht, ze_has2 a0 (by omega), zl_b]
  refine zh_ite (fun _ => zh_ret trivial) fun hta => ?_
  have hta : zb t a.toNat = true := by
    by_cases hh : zb t a.toNat = true
    · exact hh
    · rw [if_neg hh] at hta; exact absurd rfl hta
  refine zh_sum (Q := fun _ => True) (zh_loop (F := fun f b (c : (Int → Int) × (Int → Int) × (Int → Int)) => zf_M_laysTwo_l3 s q j a v mc mA mk mh mt C mf f b c.1 c.2.1 c.2.2) (N := 24) (I := fun _ _ => True) (fun f b c b0 b1 _ k4 => ?_) 24 0 (_, _, _) zi_fu (by decide) (by decide) (by decide) (by decide) trivial) (fun c _ => k3 (_, _, _) hv (by omega)) fun _ _ => zh_ret trivial
  show zh_ok (zf_M_laysTwo_l3_b s q j a v mc mA mk mh mt C mf (zf_M_laysTwo_l3 s q j a v mc mA mk mh mt C mf f) b c.1 c.2.1 c.2.2) _
  unfold zf_M_laysTwo_l3_b
  refine zh_ite (fun hb => ?_) fun _ => zh_ret trivial
  rw [zi_w_id (x := b + 1) (by omega) (by omega), zi_w_id (x := j - v) (by omega) (by omega), ht, ze_has2 b0 (by omega), zl_b]
  refine zh_ite (fun _ => k4 (_, _, _) hb trivial) fun htb => ?_
  have htb : zb t b.toNat = true := by
    by_cases hh : zb t b.toNat = true
    · exact hh
    · rw [if_neg hh] at htb; exact absurd rfl htb
  exact zh_bind (yw_comesTwo R hm s0 s1 a0 ha hta b0 hb htb (by omega) (by omega) (by omega) (by omega)) fun r9 _ => zh_ite (fun _ => k4 (_, _, _) hb trivial) fun _ => zh_ret trivial
theorem yw_byTwoM (R : yl_R L K V nc tS tL sP lP kd fr hf to mc C mk mf mh mt) (k : yk_sky t h u cl sc sr ch co ro br wc wr m) (z : yk_sea ts gp gl m) {x y n w f1 f2 f3 f4 : Int} {aA g S : Int → Int} :
    zh_ok (zf_M_byTwo s x y n w mc f1 f2 f3 f4 m aA mk g mh mt C S mf) fun o => ∀ j, 0 ≤ j → j < 422 → o.2.2.2.2.2.1 j = m j := by
  obtain ⟨⟨ht, k126⟩, -⟩ := id k
  obtain ⟨⟨t1, t2, e127, -⟩, hb⟩ := id z
  unfold zf_M_byTwo
  rw [ze_M_isShip (by omega) (by omega), zl_b, e127]
  refine zh_ite (fun _ => zh_ret fun _ _ _ => rfl) fun q1 => ?_
  rw [ze_M_isPlace, zl_b]
  refine zh_ite (fun _ => zh_ret fun _ _ _ => rfl) fun q2 => ?_
  rw [ze_M_in, zl_b]
  refine zh_ite (fun _ => zh_ret fun _ _ _ => rfl) fun q3 => ?_
  rw [ze_M_in, zl_b]
  refine zh_ite (fun _ => zh_ret fun _ _ _ => rfl) fun q4 => zh_ite (fun _ => zh_ret fun _ _ _ => rfl) fun q5 => ?_
  obtain ⟨s0, s1, -⟩ := zs_has_ne q1
  obtain ⟨n0, n1⟩ := zs_in_ne q3
  obtain ⟨mA, e1, hA⟩ := ze_begins (g0 := m) (g := aA)
  rw [e1, zl_b]
  have hmA : yw_mo t cl sc sr ch ts br wc wr gl mA := yw_mo_cg ⟨h, u, co, ro, gp, k, z⟩ hA
  refine zh_bind (yw_laysTwo R hmA (by rw [hA 126 (by decide) (by decide), k126]) s0 s1 n0 n1) fun r11 _ => ?_
  obtain ⟨m3, e3, h3⟩ := ze_again (g0 := mA) (g := r11.2.2.2.2.2.1)
  have h4 : ∀ j, 0 ≤ j → j < 422 → m3 j = m j := fun j j0 j1 => by rw [h3 j j0 j1, hA j j0 j1]
  rw [e3, zl_b]
  exact zh_ite (fun _ => zh_ret h4) fun _ => zh_ite (fun _ => zh_ret h4) fun _ => zh_ite (fun _ => zh_ret h4) fun _ => zh_ite (fun _ => zh_ret h4) fun _ => zh_ret h4
end YWS
