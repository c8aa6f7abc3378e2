/-! log in the reference: it answers; now is restored, the tape taken alike. -/
section YWGM
variable {L : zLW} {K V kd fr hf to C mk mf mh mt T M tf tt : Int → Int} {nc tS tL sP lP mc : Int} {t h u cl sc sr ch ts p i ln nn : Int} {co ro br wc wr m gp gl nr : Int → Int}
theorem yw_lg2M (R : yl_R L K V nc tS tL sP lP kd fr hf to mc C mk mf mh mt) (k : yk_sky t h u cl sc sr ch co ro br wc wr m) (z : yk_sea ts gp gl m) (tl : yk_tl ln nn nr tf tt) (hln : ln ≠ 0) {a x3 f3 f4 : Int} {A B sp d1 d2 d3 d4 d5 d6 : Int → Int} (i0 : 0 ≤ x3) (i1 : x3 < 12) (hn : yw_rn sp) :
    zh_ok (zf_M_log_l2 a x3 ln mc nn A B m mk mh mt C tf tt zi_fu 0 f3 f4 sp d1 d2 d3 d4 d5 d6) fun o => yw_rn o.2.2.1 := by
  refine zh_loop (F := fun f j (b : Int × Int × (Int → Int) × (Int → Int) × (Int → Int) × (Int → Int) × (Int → Int) × (Int → Int) × (Int → Int)) => zf_M_log_l2 a x3 ln mc nn A B m mk mh mt C tf tt f j b.1 b.2.1 b.2.2.1 b.2.2.2.1 b.2.2.2.2.1 b.2.2.2.2.2.1 b.2.2.2.2.2.2.1 b.2.2.2.2.2.2.2.1 b.2.2.2.2.2.2.2.2) (N := 288) (I := fun _ o => yw_rn o.2.2.1) (fun f j b j0 j1 ha kk => ?_) 288 0 (f3, f4, sp, d1, d2, d3, d4, d5, d6) zi_fu (by decide) (by decide) (by decide) (by decide) hn
  obtain ⟨b1, b2, b3, b4, b5, b6, b7, b8, b9⟩ := b
  dsimp only at ha
  show zh_ok (zf_M_log_l2_b a x3 ln mc nn A B m mk mh mt C tf tt (zf_M_log_l2 a x3 ln mc nn A B m mk mh mt C tf tt f) j b1 b2 b3 b4 b5 b6 b7 b8 b9) _
  unfold zf_M_log_l2_b
  refine zh_ite (fun hj => ?_) fun _ => zh_ret ha
  rw [zi_w_id (x := j + 1) (by omega) (by omega), zi_w_id (x := x3 + 1) (by omega) (by omega)]
  have k2 : ∀ c1 c2 c3 c4 c5 c6 c7 c8 c9, yw_rn c3 → zh_ok (zf_M_log_l2 a x3 ln mc nn A B m mk mh mt C tf tt f (j + 1) c1 c2 c3 c4 c5 c6 c7 c8 c9) _ := fun c1 c2 c3 c4 c5 c6 c7 c8 c9 p1 => kk (c1, c2, c3, c4, c5, c6, c7, c8, c9) hj p1
  refine zh_cond (zi_ix_of j0 hj) (zh_ite (fun _ => k2 _ _ _ _ _ _ _ _ _ ha) fun hne => ?_)
  obtain ⟨v0, v1⟩ := (ha j j0 hj).resolve_left hne
  refine zh_bind (yw_cbtM R k tl hln v0 v1) fun r _ => zh_cond (zi_ix_of i0 i1) ?_
  have mv : ∀ v, yw_rv v → ∀ c1 c2 c3 c4 c5 c6 c7 c8, zh_ok (if (zv_up b3 j v) j = -1 then zf_M_log_l2 a x3 ln mc nn A B m mk mh mt C tf tt f (j + 1) c1 c2 (zv_up b3 j v) c3 c4 c5 c6 c7 c8 else ((zf_M_isLand ((zv_up b3 j v) j) m).bind fun q => (if q = 0 then zf_M_log_l2 a x3 ln mc nn A B m mk mh mt C tf tt f (j + 1) c1 c2 (zv_up b3 j v) c3 c4 c5 c6 c7 c8 else zf_M_log_l2 a x3 ln mc nn A B m mk mh mt C tf tt f (j + 1) c1 c2 (zv_up (zv_up b3 j v) j (-1)) c3 c4 c5 c6 c7 c8))) fun o => yw_rn o.2.2.1 := fun v hv c1 c2 c3 c4 c5 c6 c7 c8 => by
    refine zh_ite (fun _ => k2 _ _ _ _ _ _ _ _ _ (yw_rn_u ha hv)) fun q => ?_
    rw [zv_up_s] at q ⊢
    obtain ⟨w0, w1⟩ := hv.resolve_left q
    rw [ze_isLandM z w0 w1, zl_b]
    exact zh_ite (fun _ => k2 _ _ _ _ _ _ _ _ _ (yw_rn_u ha hv)) fun _ => k2 _ _ _ _ _ _ _ _ _ (yw_rn_u (yw_rn_u ha hv) (Or.inl rfl))
  have ls : ∀ c1 c2 c3 c4 c5 c6 c7 c8, zh_ok ((zf_M_isLand (b3 j) m).bind fun q => (if q = 0 then zf_M_log_l2 a x3 ln mc nn A B m mk mh mt C tf tt f (j + 1) c1 c2 b3 c3 c4 c5 c6 c7 c8 else zf_M_log_l2 a x3 ln mc nn A B m mk mh mt C tf tt f (j + 1) c1 c2 (zv_up b3 j (-1)) c3 c4 c5 c6 c7 c8)) fun o => yw_rn o.2.2.1 := fun c1 c2 c3 c4 c5 c6 c7 c8 => by
    rw [ze_isLandM z v0 v1, zl_b]
    exact zh_ite (fun _ => k2 _ _ _ _ _ _ _ _ _ ha) fun _ => k2 _ _ _ _ _ _ _ _ _ (yw_rn_u ha (Or.inl rfl))
  rw [ze_goesTo v0 v1, zl_b]
  exact zh_ite (fun _ => zh_ite (fun _ => zh_ite (fun _ => mv _ (yw_go_rv v0 v1) _ _ _ _ _ _ _ _) fun _ => ls _ _ _ _ _ _ _ _) fun _ => mv _ (Or.inl rfl) _ _ _ _ _ _ _ _) fun _ => zh_ite (fun _ => zh_ite (fun _ => mv _ (yw_go_rv v0 v1) _ _ _ _ _ _ _ _) fun _ => ls _ _ _ _ _ _ _ _) fun _ => mv _ (Or.inl rfl) _ _ _ _ _ _ _ _
theorem yw_lg1M (R : yl_R L K V nc tS tL sP lP kd fr hf to mc C mk mf mh mt) (hm : yw_mo t cl sc sr ch ts br wc wr gl m) (tl : yk_tl ln nn nr tf tt) (hln : ln ≠ 0) {a f3 f4 : Int} {A B sp d1 d2 d3 d4 d5 d6 : Int → Int} (n0 : 0 ≤ a) (n1 : a ≤ 12) (hn : yw_rn sp) :
    zh_ok (zf_M_log_l1 a ln mc nn A B mk mh mt C tf tt zi_fu 0 f3 f4 sp m d1 d2 d3 d4 d5 d6) fun _ => True := by
  refine zh_loop (F := fun f j (b : Int × Int × (Int → Int) × (Int → Int) × (Int → Int) × (Int → Int) × (Int → Int) × (Int → Int) × (Int → Int) × (Int → Int)) => zf_M_log_l1 a ln mc nn A B mk mh mt C tf tt f j b.1 b.2.1 b.2.2.1 b.2.2.2.1 b.2.2.2.2.1 b.2.2.2.2.2.1 b.2.2.2.2.2.2.1 b.2.2.2.2.2.2.2.1 b.2.2.2.2.2.2.2.2.1 b.2.2.2.2.2.2.2.2.2) (N := a) (I := fun _ o => yw_rn o.2.2.1 ∧ yw_mo t cl sc sr ch ts br wc wr gl o.2.2.2.1) (fun f j b j0 j1 ha kk => ?_) 12 0 (f3, f4, sp, m, d1, d2, d3, d4, d5, d6) zi_fu (by omega) (by decide) n0 (by decide) ⟨hn, hm⟩
  obtain ⟨b1, b2, b3, b4, b5, b6, b7, b8, b9, b10⟩ := b
  obtain ⟨ha, hm2⟩ := ha
  dsimp only at ha hm2
  show zh_ok (zf_M_log_l1_b a ln mc nn A B mk mh mt C tf tt (zf_M_log_l1 a ln mc nn A B mk mh mt C tf tt f) j b1 b2 b3 b4 b5 b6 b7 b8 b9 b10) _
  unfold zf_M_log_l1_b
  refine zh_ite (fun hj => ?_) fun _ => zh_ret trivial
  rw [zi_w_id (x := j + 1) (by omega) (by omega)]
  obtain ⟨h, u, co, ro, gp, k, z⟩ := hm2
  obtain ⟨h', u', co', ro', m', -, e7, k3, e8⟩ := yk_pass k
  refine zh_bind (yw_lg2M R k z tl hln j0 (by omega) ha) fun q hq => ?_
  rw [e7, zl_b]
  exact kk (q.1, q.2.1, q.2.2.1, m', q.2.2.2.1, q.2.2.2.2.1, q.2.2.2.2.2.1, q.2.2.2.2.2.2.1, q.2.2.2.2.2.2.2.1, q.2.2.2.2.2.2.2.2) hj ⟨hq, h', u', co', ro', gp, k3, yk_sea_fr z fun j hj => e8 j (by omega) (by omega) (by omega)⟩
theorem yw_logM (R : yl_R L K V nc tS tL sP lP kd fr hf to mc C mk mf mh mt) (k : yk_sky t h u cl sc sr ch co ro br wc wr m) (z : yk_sea ts gp gl m) (hT : yk_T T M) (tl : yk_tl ln nn nr tf tt) {a w n f3 f4 : Int} {A B sp aA g S d1 d2 d3 d4 : Int → Int} :
    zh_ok (zf_M_log a w ln n mc f3 f4 nn A M B sp m aA mk g mh mt C S d1 d2 d3 tf tt d4) fun o => o.2.1 = yw_logS a w ln n ∧ ∀ j, 0 ≤ j → j < 422 → o.2.2.2.2.2.2.2.1 j = m j := by
  unfold zf_M_log yw_logS
  rw [ze_M_in, zl_b]
  refine zh_ite (fun q => zh_ret ⟨(if_pos q).symm, fun _ _ _ => rfl⟩) fun q1 => ?_
  rw [if_neg q1, ze_M_in, zl_b]
  refine zh_ite (fun q => zh_ret ⟨(if_pos q).symm, fun _ _ _ => rfl⟩) fun q2 => ?_
  rw [if_neg q2]
  refine zh_ite (fun q => zh_ret ⟨(if_pos q).symm, fun _ _ _ => rfl⟩) fun q3 => ?_
  rw [if_neg q3]
  obtain ⟨n1, n2⟩ := zs_in_ne q1
  rw [zi_w_id (x := 2 * a) (by omega) (by omega)]
  refine zh_ite (fun q => zh_ret ⟨(if_pos q).symm, fun _ _ _ => rfl⟩) fun q4 => ?_
  rw [if_neg q4]
  have hb : zh_ok (zf_M_takesLog a A M B) fun _ => True := by
    rcases yl_bytes (n := a) hT (by omega) n2 (A := A) (B := B) with ⟨A', B', -, e, -⟩ | ⟨A', B', -, e⟩
    · exact zh_t e
    · exact zh_t e
  refine zh_bind hb fun r7 _ => zh_ite (fun _ => zh_ret ⟨rfl, fun _ _ _ => rfl⟩) fun _ => ?_
  obtain ⟨-, B', -, e2, -, hB⟩ := yw_lay z sp sp
  obtain ⟨mA, e3, hA⟩ := ze_begins (g0 := m) (g := aA)
  rw [e2, zl_b, e3, zl_b]
  refine zh_bind (yw_lg1M R ⟨h, u, co, ro, gp, k, z⟩ tl q3 (by omega) n2 hB) fun q49 _ => ?_
  obtain ⟨m3, e4, h4⟩ := ze_again (g0 := mA) (g := q49.2.2.2.1)
  rw [e4, zl_b]
  obtain ⟨c, f, -, -, e5⟩ := yp_count (A := q49.2.2.1) (B := q49.2.2.1) fun _ _ _ => rfl
  rw [e5, zl_b]
  have h5 : ∀ j, 0 ≤ j → j < 422 → m3 j = m j := fun j j0 j1 => by rw [h4 j j0 j1, hA j j0 j1]
  exact zh_ite (fun _ => zh_ret ⟨rfl, h5⟩) fun _ => zh_ret ⟨rfl, h5⟩
end YWGM
