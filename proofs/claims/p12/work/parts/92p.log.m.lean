/-! 92p.log, 92q.mlog, 93a.legs, 93b.fast, 93c.mfast, 93d.fastest, 93e.count, 93f.maps, 93g.match, 93h.begin -/
section
/-! log: both sides answer. -/
section YWG
variable {L : zLW} {K V kd fr hf to C mk mf mh mt T M : Int → Int} {nc tS tL sP lP mc : Int} {t h u cl sc sr ch ts p i : Int} {co ro br wc wr m gp gl : Int → Int}
def yw_rv (v : Int) : Prop := v = -1 ∨ (0 ≤ v ∧ v < 288)
theorem yw_rn_u {k v : Int} {g : Int → Int} (h : yw_rn g) (hv : yw_rv v) : yw_rn (zv_up g k v) := fun j j0 j1 => by
  by_cases e : j = k
  · subst e; rw [zv_up_s]; exact hv
  · rw [zv_up_n e]; exact h j j0 j1
theorem yw_go_rv {how : Int} (p1 : 0 ≤ p) (p2 : p < 288) : yw_rv (yg_go p how) := by
  have := yg_go_in (how := how) p1 p2
  unfold yw_rv
  omega
def yw_logS (a w ln n : Int) : Int := if zs_in a 1 12 = 0 then n else if zs_in w 0 1 = 0 then n else if ln = 0 then n else if n < 2 * a then n else 0
theorem yw_move (z : yk_sea ts gp gl m) {how : Int} {g : Int → Int} (hg : yw_rn g) : zh_ok (zf_X_moveSpots how g gl) yw_rn := by
  unfold zf_X_moveSpots
  refine zh_bind (Q := yw_rn) (zh_loop (F := fun f j (b : Int → Int) => zf_X_moveSpots_l0 how gl f j b) (N := 288) (I := fun _ b => yw_rn b) (fun f j b j0 j1 ha kk => ?_) 288 0 g zi_fu (by decide) (by decide) (by decide) (by decide) hg) fun q hq => zh_ret hq
  show zh_ok (zf_X_moveSpots_l0_b how gl (zf_X_moveSpots_l0 how gl f) j b) _
  unfold zf_X_moveSpots_l0_b
  refine zh_ite (fun hj => ?_) fun _ => zh_ret ha
  rw [zi_w_id (x := j + 1) (by omega) (by omega)]
  refine zh_cond (zi_ix_of j0 hj) (zh_ite (fun _ => kk _ hj ha) fun hne => ?_)
  obtain ⟨v0, v1⟩ := (ha j j0 hj).resolve_left hne
  rw [ze_goFrom z v0 v1, zl_b]
  refine kk _ hj (yw_rn_u ha ?_)
  split
  · exact Or.inl rfl
  · exact yw_go_rv v0 v1
theorem yw_lg2X (R : yl_R L K V nc tS tL sP lP kd fr hf to mc C mk mf mh mt) (k : yk_sky t h u cl sc sr ch co ro br wc wr m) {w nn e1 e2 e3 e4 e5 e6 e7 : Int} {nr d1 d2 d3 d4 d5 d6 d7 d8 d9 : Int → Int} (hc : yv_ca L sP h u co ro br e1 e5) (hp : yv_cp L lP h u co ro br d2 d6) (hs : yw_so d9) (hn : yw_rn d1) :
    zh_ok (zf_X_log_l2 w t h u cl sc sr tS nc sP nn tL lP co ro br kd hf to K V nr zi_fu 0 e1 e2 e3 e4 e5 e6 e7 d1 d2 d3 d4 d5 d6 d7 d8 d9) fun o => yw_rn o.2.2.2.2.2.2.2.1 ∧ yw_so o.2.2.2.2.2.2.2.2.2.2.2.2.2.2.2 := by
  refine zh_loop (F := fun f j (b : Int × Int × Int × Int × Int × Int × Int × (Int → Int) × (Int → Int) × (Int → Int) × (Int → Int) × (Int → Int) × (Int → Int) × (Int → Int) × (Int → Int) × (Int → Int)) => zf_X_log_l2 w t h u cl sc sr tS nc sP nn tL lP co ro br kd hf to K V nr f j b.1 b.2.1 b.2.2.1 b.2.2.2.1 b.2.2.2.2.1 b.2.2.2.2.2.1 b.2.2.2.2.2.2.1 b.2.2.2.2.2.2.2.1 b.2.2.2.2.2.2.2.2.1 b.2.2.2.2.2.2.2.2.2.1 b.2.2.2.2.2.2.2.2.2.2.1 b.2.2.2.2.2.2.2.2.2.2.2.1 b.2.2.2.2.2.2.2.2.2.2.2.2.1 b.2.2.2.2.2.2.2.2.2.2.2.2.2.1 b.2.2.2.2.2.2.2.2.2.2.2.2.2.2.1 b.2.2.2.2.2.2.2.2.2.2.2.2.2.2.2) (N := 288) (I := fun _ o => yv_ca L sP h u co ro br o.1 o.2.2.2.2.1 ∧ yv_cp L lP h u co ro br o.2.2.2.2.2.2.2.2.1 o.2.2.2.2.2.2.2.2.2.2.2.2.1 ∧ yw_rn o.2.2.2.2.2.2.2.1 ∧ yw_so o.2.2.2.2.2.2.2.2.2.2.2.2.2.2.2) (fun f j b j0 j1 ha kk => ?_) 288 0 (e1, e2, e3, e4, e5, e6, e7, d1, d2, d3, d4, d5, d6, d7, d8, d9) zi_fu (by decide) (by decide) (by decide) (by decide) ⟨hc, hp, hn, hs⟩
  obtain ⟨b1, b2, b3, b4, b5, b6, b7, b8, b9, b10, b11, b12, b13, b14, b15, b16⟩ := b
  obtain ⟨a1, a2, a3, a4⟩ := ha
  dsimp only at a1 a2 a3 a4
  show zh_ok (zf_X_log_l2_b w t h u cl sc sr tS nc sP nn tL lP co ro br kd hf to K V nr (zf_X_log_l2 w t h u cl sc sr tS nc sP nn tL lP co ro br kd hf to K V nr f) j b1 b2 b3 b4 b5 b6 b7 b8 b9 b10 b11 b12 b13 b14 b15 b16) _
  unfold zf_X_log_l2_b
  refine zh_ite (fun hj => ?_) fun _ => zh_ret ⟨a3, a4⟩
  rw [zi_w_id (x := j + 1) (by omega) (by omega)]
  have k2 : ∀ c1 c2 c3 c4 c5 c6 c7 c8 c9 c10 c11 c12 c13 c14 c15 c16, yv_ca L sP h u co ro br c1 c5 → yv_cp L lP h u co ro br c9 c13 → yw_rn c8 → yw_so c16 → zh_ok (zf_X_log_l2 w t h u cl sc sr tS nc sP nn tL lP co ro br kd hf to K V nr f (j + 1) c1 c2 c3 c4 c5 c6 c7 c8 c9 c10 c11 c12 c13 c14 c15 c16) _ := fun c1 c2 c3 c4 c5 c6 c7 c8 c9 c10 c11 c12 c13 c14 c15 c16 p1 p2 p3 p4 => kk (c1, c2, c3, c4, c5, c6, c7, c8, c9, c10, c11, c12, c13, c14, c15, c16) hj ⟨p1, p2, p3, p4⟩
  refine zh_cond (zi_ix_of j0 hj) (zh_ite (fun _ => k2 _ _ _ _ _ _ _ _ _ _ _ _ _ _ _ _ a1 a2 a3 a4) fun hne => ?_)
  obtain ⟨v0, v1⟩ := (a3 j j0 hj).resolve_left hne
  exact zh_bind (yw_cbtX R k v0 v1 a1 a2 a4) fun r h5 => zh_ite (fun _ => k2 _ _ _ _ _ _ _ _ _ _ _ _ _ _ _ _ h5.1 h5.2.1 a3 h5.2.2) fun _ => k2 _ _ _ _ _ _ _ _ _ _ _ _ _ _ _ _ h5.1 h5.2.1 (yw_rn_u a3 (Or.inl rfl)) h5.2.2
theorem yw_lg1X (R : yl_R L K V nc tS tL sP lP kd fr hf to mc C mk mf mh mt) (w : yw_wo t h u cl sc sr ch ts co ro br wc wr gl) (hT : yk_T T M) {a nn e1 e2 e3 e4 e5 e6 e7 : Int} {nr d1 c1 c2 c3 c4 c5 c6 c7 c8 : Int → Int} (n1 : 0 ≤ a) (n2 : a ≤ 12) (hs : yw_so c8) (hn : yw_rn d1) :
    zh_ok (zf_X_log_l1 a t cl sc sr tS nc sP nn tL lP T gl br wc wr kd hf to K V nr zi_fu 0 h u e1 e2 e3 e4 e5 e6 e7 d1 co ro c1 c2 c3 c4 c5 c6 c7 c8) fun o => yw_so o.2.2.2.2.2.2.2.2.2.2.2.2.2.2.2.2.2.2.2 := by
  refine zh_loop (F := fun f j (b : Int × Int × Int × Int × Int × Int × Int × Int × Int × (Int → Int) × (Int → Int) × (Int → Int) × (Int → Int) × (Int → Int) × (Int → Int) × (Int → Int) × (Int → Int) × (Int → Int) × (Int → Int) × (Int → Int)) => zf_X_log_l1 a t cl sc sr tS nc sP nn tL lP T gl br wc wr kd hf to K V nr f j b.1 b.2.1 b.2.2.1 b.2.2.2.1 b.2.2.2.2.1 b.2.2.2.2.2.1 b.2.2.2.2.2.2.1 b.2.2.2.2.2.2.2.1 b.2.2.2.2.2.2.2.2.1 b.2.2.2.2.2.2.2.2.2.1 b.2.2.2.2.2.2.2.2.2.2.1 b.2.2.2.2.2.2.2.2.2.2.2.1 b.2.2.2.2.2.2.2.2.2.2.2.2.1 b.2.2.2.2.2.2.2.2.2.2.2.2.2.1 b.2.2.2.2.2.2.2.2.2.2.2.2.2.2.1 b.2.2.2.2.2.2.2.2.2.2.2.2.2.2.2.1 b.2.2.2.2.2.2.2.2.2.2.2.2.2.2.2.2.1 b.2.2.2.2.2.2.2.2.2.2.2.2.2.2.2.2.2.1 b.2.2.2.2.2.2.2.2.2.2.2.2.2.2.2.2.2.2.1 b.2.2.2.2.2.2.2.2.2.2.2.2.2.2.2.2.2.2.2) (N := a) (I := fun _ o => yw_wo t o.1 o.2.1 cl sc sr ch ts o.2.2.2.2.2.2.2.2.2.2.1 o.2.2.2.2.2.2.2.2.2.2.2.1 br wc wr gl ∧ yw_rn o.2.2.2.2.2.2.2.2.2.1 ∧ yw_so o.2.2.2.2.2.2.2.2.2.2.2.2.2.2.2.2.2.2.2) (fun f j b j0 j1 ha kk => ?_) 12 0 (h, u, e1, e2, e3, e4, e5, e6, e7, d1, co, ro, c1, c2, c3, c4, c5, c6, c7, c8) zi_fu (by omega) (by decide) n1 (by decide) ⟨w, hn, hs⟩
  obtain ⟨b1, b2, b3, b4, b5, b6, b7, b8, b9, b10, b11, b12, b13, b14, b15, b16, b17, b18, b19, b20⟩ := b
  obtain ⟨w2, a3, a4⟩ := ha
  dsimp only at w2 a3 a4
  show zh_ok (zf_X_log_l1_b a t cl sc sr tS nc sP nn tL lP T gl br wc wr kd hf to K V nr (zf_X_log_l1 a t cl sc sr tS nc sP nn tL lP T gl br wc wr kd hf to K V nr f) j b1 b2 b3 b4 b5 b6 b7 b8 b9 b10 b11 b12 b13 b14 b15 b16 b17 b18 b19 b20) _
  unfold zf_X_log_l1_b
  refine zh_ite (fun hj => ?_) fun _ => zh_ret a4
  rw [zi_w_id (x := j + 1) (by omega) (by omega), zi_w_id (x := 2 * j) (by omega) (by omega), zi_w_id (x := 2 * j + 1) (by omega) (by omega), zi_w_id (x := a - 1) (by omega) (by omega)]
  obtain ⟨gA, e0, h0⟩ := ze_open (f := b3) (g := b13)
  obtain ⟨gp, m, k, z⟩ := w2
  obtain ⟨h', u', co', ro', m', e7, -, k3, e8⟩ := yk_pass k
  have w3 : yw_wo t h' u' cl sc sr ch ts co' ro' br wc wr gl := ⟨gp, m', k3, yk_sea_fr z fun j hj => e8 j (by omega) (by omega) (by omega)⟩
  rw [e0, zl_b, ze_byteAt (by omega) (by omega), zl_b, ze_byteAt (by omega) (by omega)]
  have fin : ∀ q : Int × Int × Int × Int × Int × Int × Int × (Int → Int) × (Int → Int) × (Int → Int) × (Int → Int) × (Int → Int) × (Int → Int) × (Int → Int) × (Int → Int) × (Int → Int), yw_rn q.2.2.2.2.2.2.2.1 ∧ yw_so q.2.2.2.2.2.2.2.2.2.2.2.2.2.2.2 → zh_ok (if j < a - 1 then ((some (T (2 * j + 1))).bind fun r39 => ((zf_X_moveSpots r39 q.2.2.2.2.2.2.2.1 gl).bind fun r40 => ((zf_Sky_passHour b1 b2 b11 wc b12 wr).bind fun r41 => (zf_X_log_l1 a t cl sc sr tS nc sP nn tL lP T gl br wc wr kd hf to K V nr f (j + 1) r41.1 r41.2.1 q.1 q.2.1 q.2.2.1 q.2.2.2.1 q.2.2.2.2.1 q.2.2.2.2.2.1 q.2.2.2.2.2.2.1 r40 r41.2.2.1 r41.2.2.2 q.2.2.2.2.2.2.2.2.1 q.2.2.2.2.2.2.2.2.2.1 q.2.2.2.2.2.2.2.2.2.2.1 q.2.2.2.2.2.2.2.2.2.2.2.1 q.2.2.2.2.2.2.2.2.2.2.2.2.1 q.2.2.2.2.2.2.2.2.2.2.2.2.2.1 q.2.2.2.2.2.2.2.2.2.2.2.2.2.2.1 q.2.2.2.2.2.2.2.2.2.2.2.2.2.2.2)))) else ((zf_Sky_passHour b1 b2 b11 wc b12 wr).bind fun r38 => (zf_X_log_l1 a t cl sc sr tS nc sP nn tL lP T gl br wc wr kd hf to K V nr f (j + 1) r38.1 r38.2.1 q.1 q.2.1 q.2.2.1 q.2.2.2.1 q.2.2.2.2.1 q.2.2.2.2.2.1 q.2.2.2.2.2.2.1 q.2.2.2.2.2.2.2.1 r38.2.2.1 r38.2.2.2 q.2.2.2.2.2.2.2.2.1 q.2.2.2.2.2.2.2.2.2.1 q.2.2.2.2.2.2.2.2.2.2.1 q.2.2.2.2.2.2.2.2.2.2.2.1 q.2.2.2.2.2.2.2.2.2.2.2.2.1 q.2.2.2.2.2.2.2.2.2.2.2.2.2.1 q.2.2.2.2.2.2.2.2.2.2.2.2.2.2.1 q.2.2.2.2.2.2.2.2.2.2.2.2.2.2.2))) fun o => yw_so o.2.2.2.2.2.2.2.2.2.2.2.2.2.2.2.2.2.2.2 := fun q hq => by
    refine zh_ite (fun _ => ?_) fun _ => ?_
    · rw [zl_b]
      refine zh_bind (yw_move z hq.1) fun r40 h40 => ?_
      rw [e7, zl_b]
      exact kk (h', u', q.1, q.2.1, q.2.2.1, q.2.2.2.1, q.2.2.2.2.1, q.2.2.2.2.2.1, q.2.2.2.2.2.2.1, r40, co', ro', q.2.2.2.2.2.2.2.2.1, q.2.2.2.2.2.2.2.2.2.1, q.2.2.2.2.2.2.2.2.2.2.1, q.2.2.2.2.2.2.2.2.2.2.2.1, q.2.2.2.2.2.2.2.2.2.2.2.2.1, q.2.2.2.2.2.2.2.2.2.2.2.2.2.1, q.2.2.2.2.2.2.2.2.2.2.2.2.2.2.1, q.2.2.2.2.2.2.2.2.2.2.2.2.2.2.2) hj ⟨w3, h40, hq.2⟩
    · rw [e7, zl_b]
      exact kk (h', u', q.1, q.2.1, q.2.2.1, q.2.2.2.1, q.2.2.2.2.1, q.2.2.2.2.2.1, q.2.2.2.2.2.2.1, q.2.2.2.2.2.2.2.1, co', ro', q.2.2.2.2.2.2.2.2.1, q.2.2.2.2.2.2.2.2.2.1, q.2.2.2.2.2.2.2.2.2.2.1, q.2.2.2.2.2.2.2.2.2.2.2.1, q.2.2.2.2.2.2.2.2.2.2.2.2.1, q.2.2.2.2.2.2.2.2.2.2.2.2.2.1, q.2.2.2.2.2.2.2.2.2.2.2.2.2.2.1, q.2.2.2.2.2.2.2.2.2.2.2.2.2.2.2) hj ⟨w3, hq.1, hq.2⟩
  exact zh_ite (fun _ => zh_bind (yw_lg2X R k yv_ca0 (yv_cp0 h0) a4 a3) fin) fun _ => zh_bind (yw_lg2X R k yv_ca0 (yv_cp0 h0) a4 a3) fin
theorem yw_lay (z : yk_sea ts gp gl m) (A B : Int → Int) : ∃ A' B', zf_X_log_l0 gl zi_fu 0 A = some A' ∧ zf_M_log_l0 m zi_fu 0 B = some B' ∧ yw_rn A' ∧ yw_rn B' := by
  obtain ⟨A', B', e1, e2, h, -⟩ := yp_lay_l z 288 0 A B zi_fu (by decide) (by decide) (by decide)
  have v : ∀ i, 0 ≤ i → i < 288 → yw_rv (if yg_ld gl i = true then -1 else i) := fun i i0 i1 => by
    unfold yw_rv
    split <;> omega
  exact ⟨A', B', e1, e2, fun i i0 i1 => by rw [(h i i0 i1).1]; exact v i i0 i1, fun i i0 i1 => by rw [(h i i0 i1).2]; exact v i i0 i1⟩
theorem yw_logX (R : yl_R L K V nc tS tL sP lP kd fr hf to mc C mk mf mh mt) (k : yk_sky t h u cl sc sr ch co ro br wc wr m) (z : yk_sea ts gp gl m) (hT : yk_T T M) {a w ln n nn : Int} {f4 f6 f8 f10 f12 f14 f16 f20 f21 f22 f23 f25 f27 f34 : Int} {nr g1 g4 g6 g8 g10 g12 g13 g14 g19 g21 g22 g23 g25 g26 : Int → Int} (hs : yw_so g26) :
    zh_ok (zf_X_log a w ln n t f4 h f6 u f8 cl f10 sc f12 sr f14 ch f16 f20 f21 f22 f23 tS f25 nc f27 sP nn tL lP f34 T g1 gl co g4 ro g6 br g8 wc g10 wr g12 g13 g14 kd hf to K g19 V g21 g22 g23 nr g25 g26) fun o => o.2.1 = yw_logS a w ln n ∧ yw_so o.2.2.2.2.2.2.2.2.2.2.2.2.2.2.2.2.2.2.2.2.2.2.2.2.2.2.2.2.2 := by
  unfold zf_X_log yw_logS
  rw [ze_X_isWithin, zl_b]
  refine zh_ite (fun q => zh_ret ⟨(if_pos q).symm, hs⟩) fun q1 => ?_
  rw [if_neg q1, ze_X_isWithin, zl_b]
  refine zh_ite (fun q => zh_ret ⟨(if_pos q).symm, hs⟩) fun q2 => ?_
  rw [if_neg q2]
  refine zh_ite (fun q => zh_ret ⟨(if_pos q).symm, hs⟩) fun q3 => ?_
  rw [if_neg q3]
  obtain ⟨n1, n2⟩ := zs_in_ne q1
  rw [zi_w_id (x := 2 * a) (by omega) (by omega)]
  unfold zf_Tape_take
  by_cases q4 : n < 2 * a
  · rw [if_pos q4, if_pos q4, zl_b, if_pos rfl]
    exact zh_ret ⟨rfl, hs⟩
  rw [if_neg q4, if_neg q4, zl_b, if_neg (show ¬ (1 : Int) = 0 by decide)]
  have hb : zh_ok (zf_X_isLogBytes a T) fun _ => True := by
    rcases yl_bytes (n := a) hT (by omega) n2 (A := T) (B := T) with ⟨A', B', e, -⟩ | ⟨A', B', e, -⟩
    · exact zh_t e
    · exact zh_t e
  refine zh_bind hb fun r12 _ => zh_ite (fun _ => zh_ret ⟨rfl, hs⟩) fun _ => ?_
  obtain ⟨A', -, e1, -, hA, -⟩ := yw_lay z g1 g1
  rw [e1, zl_b]
  unfold zf_Sky_copyFrom
  rw [zl_b]
  dsimp only
  have w2 : yw_wo t h u cl sc sr ch ts (zv_cpy co g4 24) (zv_cpy ro g6 24) (zv_cpy br g8 24) (zv_cpy wc g10 24) (zv_cpy wr g12 24) gl := ⟨gp, m, yk_sky_cg k (fun j j1 j2 => zv_cpy_in j2) (fun j j1 j2 => zv_cpy_in j2) (fun j j1 j2 => zv_cpy_in j2) (fun j j1 j2 => zv_cpy_in j2) (fun j j1 j2 => zv_cpy_in j2) (fun _ _ _ => rfl), z⟩
  refine zh_bind (yw_lg1X R w2 hT (by omega) n2 hs hA) fun q42 h42 => ?_
  have cf : ∀ B : Int → Int, ∃ c f, zf_X_countSpots B = some c ∧ zf_X_firstSpot B = some f := fun B => by
    obtain ⟨c, f, e2, e3, -⟩ := yp_count (A := B) (B := B) fun _ _ _ => rfl
    exact ⟨c, f, e2, e3⟩
  obtain ⟨c, f, e2, e3⟩ := cf q42.2.2.2.2.2.2.2.2.2.1
  rw [e2, e3, zl_b, zl_b]
  exact zh_ite (fun _ => zh_ret ⟨rfl, h42⟩) fun _ => zh_ret ⟨rfl, h42⟩
end YWG
end
section
/-! log in the reference: it answers; now is restored, the tape taken alike. -/
section YWGM
variable {L : zLW} {K V kd fr hf to C mk mf mh mt T M tf tt : Int → Int} {nc tS tL sP lP mc : Int} {t h u cl sc sr ch ts p i ln nn : Int} {co ro br wc wr m gp gl nr : Int → Int}
theorem yw_lg2M (R : yl_R L K V nc tS tL sP lP kd fr hf to mc C mk mf mh mt) (k : yk_sky t h u cl sc sr ch co ro br wc wr m) (z : yk_sea ts gp gl m) (tl : yk_tl ln nn nr tf tt) (hln : ln ≠ 0) {a x3 f3 f4 : Int} {A B sp d1 d2 d3 d4 d5 d6 : Int → Int} (i0 : 0 ≤ x3) (i1 : x3 < 12) (hn : yw_rn sp) :
    zh_ok (zf_M_log_l2 a x3 ln mc nn A B m mk mh mt C tf tt zi_fu 0 f3 f4 sp d1 d2 d3 d4 d5 d6) fun o => yw_rn o.2.2.1 := by
  refine zh_loop (F := fun f j (b : Int × Int × (Int → Int) × (Int → Int) × (Int → Int) × (Int → Int) × (Int → Int) × (Int → Int) × (Int → Int)) => zf_M_log_l2 a x3 ln mc nn A B m mk mh mt C tf tt f j b.1 b.2.1 b.2.2.1 b.2.2.2.1 b.2.2.2.2.1 b.2.2.2.2.2.1 b.2.2.2.2.2.2.1 b.2.2.2.2.2.2.2.1 b.2.2.2.2.2.2.2.2) (N := 288) (I := fun _ o => yw_rn o.2.2.1) (fun f j b j0 j1 ha kk => ?_) 288 0 (f3, f4, sp, d1, d2, d3, d4, d5, d6) zi_fu (by decide) (by decide) (by decide) (by decide) hn
  obtain ⟨b1, b2, b3, b4, b5, b6, b7, b8, b9⟩ := b
  dsimp only at ha
  show zh_ok (zf_M_log_l2_b a x3 ln mc nn A B m mk mh mt C tf tt (zf_M_log_l2 a x3 ln mc nn A B m mk mh mt C tf tt f) j b1 b2 b3 b4 b5 b6 b7 b8 b9) _
  unfold zf_M_log_l2_b
  refine zh_ite (fun hj => ?_) fun _ => zh_ret ha
  rw [zi_w_id (x := j + 1) (by omega) (by omega), zi_w_id (x := x3 + 1) (by omega) (by omega)]
  have k2 : ∀ c1 c2 c3 c4 c5 c6 c7 c8 c9, yw_rn c3 → zh_ok (zf_M_log_l2 a x3 ln mc nn A B m mk mh mt C tf tt f (j + 1) c1 c2 c3 c4 c5 c6 c7 c8 c9) _ := fun c1 c2 c3 c4 c5 c6 c7 c8 c9 p1 => kk (c1, c2, c3, c4, c5, c6, c7, c8, c9) hj p1
  refine zh_cond (zi_ix_of j0 hj) (zh_ite (fun _ => k2 _ _ _ _ _ _ _ _ _ ha) fun hne => ?_)
  obtain ⟨v0, v1⟩ := (ha j j0 hj).resolve_left hne
  refine zh_bind (yw_cbtM R k tl hln v0 v1) fun r _ => zh_cond (zi_ix_of i0 i1) ?_
  have mv : ∀ v, yw_rv v → ∀ c1 c2 c3 c4 c5 c6 c7 c8, zh_ok (if (zv_up b3 j v) j = -1 then zf_M_log_l2 a x3 ln mc nn A B m mk mh mt C tf tt f (j + 1) c1 c2 (zv_up b3 j v) c3 c4 c5 c6 c7 c8 else ((zf_M_isLand ((zv_up b3 j v) j) m).bind fun q => (if q = 0 then zf_M_log_l2 a x3 ln mc nn A B m mk mh mt C tf tt f (j + 1) c1 c2 (zv_up b3 j v) c3 c4 c5 c6 c7 c8 else zf_M_log_l2 a x3 ln mc nn A B m mk mh mt C tf tt f (j + 1) c1 c2 (zv_up (zv_up b3 j v) j (-1)) c3 c4 c5 c6 c7 c8))) fun o => yw_rn o.2.2.1 := fun v hv c1 c2 c3 c4 c5 c6 c7 c8 => by
    refine zh_ite (fun _ => k2 _ _ _ _ _ _ _ _ _ (yw_rn_u ha hv)) fun q => ?_
    rw [zv_up_s] at q ⊢
    obtain ⟨w0, w1⟩ := hv.resolve_left q
    rw [ze_isLandM z w0 w1, zl_b]
    exact zh_ite (fun _ => k2 _ _ _ _ _ _ _ _ _ (yw_rn_u ha hv)) fun _ => k2 _ _ _ _ _ _ _ _ _ (yw_rn_u (yw_rn_u ha hv) (Or.inl rfl))
  have ls : ∀ c1 c2 c3 c4 c5 c6 c7 c8, zh_ok ((zf_M_isLand (b3 j) m).bind fun q => (if q = 0 then zf_M_log_l2 a x3 ln mc nn A B m mk mh mt C tf tt f (j + 1) c1 c2 b3 c3 c4 c5 c6 c7 c8 else zf_M_log_l2 a x3 ln mc nn A B m mk mh mt C tf tt f (j + 1) c1 c2 (zv_up b3 j (-1)) c3 c4 c5 c6 c7 c8)) fun o => yw_rn o.2.2.1 := fun c1 c2 c3 c4 c5 c6 c7 c8 => by
    rw [ze_isLandM z v0 v1, zl_b]
    exact zh_ite (fun _ => k2 _ _ _ _ _ _ _ _ _ ha) fun _ => k2 _ _ _ _ _ _ _ _ _ (yw_rn_u ha (Or.inl rfl))
  rw [ze_goesTo v0 v1, zl_b]
  exact zh_ite (fun _ => zh_ite (fun _ => zh_ite (fun _ => mv _ (yw_go_rv v0 v1) _ _ _ _ _ _ _ _) fun _ => ls _ _ _ _ _ _ _ _) fun _ => mv _ (Or.inl rfl) _ _ _ _ _ _ _ _) fun _ => zh_ite (fun _ => zh_ite (fun _ => mv _ (yw_go_rv v0 v1) _ _ _ _ _ _ _ _) fun _ => ls _ _ _ _ _ _ _ _) fun _ => mv _ (Or.inl rfl) _ _ _ _ _ _ _ _
theorem yw_lg1M (R : yl_R L K V nc tS tL sP lP kd fr hf to mc C mk mf mh mt) (hm : yw_mo t cl sc sr ch ts br wc wr gl m) (tl : yk_tl ln nn nr tf tt) (hln : ln ≠ 0) {a f3 f4 : Int} {A B sp d1 d2 d3 d4 d5 d6 : Int → Int} (n0 : 0 ≤ a) (n1 : a ≤ 12) (hn : yw_rn sp) :
    zh_ok (zf_M_log_l1 a ln mc nn A B mk mh mt C tf tt zi_fu 0 f3 f4 sp m d1 d2 d3 d4 d5 d6) fun _ => True := by
  refine zh_loop (F := fun f j (b : Int × Int × (Int → Int) × (Int → Int) × (Int → Int) × (Int → Int) × (Int → Int) × (Int → Int) × (Int → Int) × (Int → Int)) => zf_M_log_l1 a ln mc nn A B mk mh mt C tf tt f j b.1 b.2.1 b.2.2.1 b.2.2.2.1 b.2.2.2.2.1 b.2.2.2.2.2.1 b.2.2.2.2.2.2.1 b.2.2.2.2.2.2.2.1 b.2.2.2.2.2.2.2.2.1 b.2.2.2.2.2.2.2.2.2) (N := a) (I := fun _ o => yw_rn o.2.2.1 ∧ yw_mo t cl sc sr ch ts br wc wr gl o.2.2.2.1) (fun f j b j0 j1 ha kk => ?_) 12 0 (f3, f4, sp, m, d1, d2, d3, d4, d5, d6) zi_fu (by omega) (by decide) n0 (by decide) ⟨hn, hm⟩
  obtain ⟨b1, b2, b3, b4, b5, b6, b7, b8, b9, b10⟩ := b
  obtain ⟨ha, hm2⟩ := ha
  dsimp only at ha hm2
  show zh_ok (zf_M_log_l1_b a ln mc nn A B mk mh mt C tf tt (zf_M_log_l1 a ln mc nn A B mk mh mt C tf tt f) j b1 b2 b3 b4 b5 b6 b7 b8 b9 b10) _
  unfold zf_M_log_l1_b
  refine zh_ite (fun hj => ?_) fun _ => zh_ret trivial
  rw [zi_w_id (x := j + 1) (by omega) (by omega)]
  obtain ⟨h, u, co, ro, gp, k, z⟩ := hm2
  obtain ⟨h', u', co', ro', m', -, e7, k3, e8⟩ := yk_pass k
  refine zh_bind (yw_lg2M R k z tl hln j0 (by omega) ha) fun q hq => ?_
  rw [e7, zl_b]
  exact kk (q.1, q.2.1, q.2.2.1, m', q.2.2.2.1, q.2.2.2.2.1, q.2.2.2.2.2.1, q.2.2.2.2.2.2.1, q.2.2.2.2.2.2.2.1, q.2.2.2.2.2.2.2.2) hj ⟨hq, h', u', co', ro', gp, k3, yk_sea_fr z fun j hj => e8 j (by omega) (by omega) (by omega)⟩
theorem yw_logM (R : yl_R L K V nc tS tL sP lP kd fr hf to mc C mk mf mh mt) (k : yk_sky t h u cl sc sr ch co ro br wc wr m) (z : yk_sea ts gp gl m) (hT : yk_T T M) (tl : yk_tl ln nn nr tf tt) {a w n f3 f4 : Int} {A B sp aA g S d1 d2 d3 d4 : Int → Int} :
    zh_ok (zf_M_log a w ln n mc f3 f4 nn A M B sp m aA mk g mh mt C S d1 d2 d3 tf tt d4) fun o => o.2.1 = yw_logS a w ln n ∧ ∀ j, 0 ≤ j → j < 422 → o.2.2.2.2.2.2.2.1 j = m j := by
  unfold zf_M_log yw_logS
  rw [ze_M_in, zl_b]
  refine zh_ite (fun q => zh_ret ⟨(if_pos q).symm, fun _ _ _ => rfl⟩) fun q1 => ?_
  rw [if_neg q1, ze_M_in, zl_b]
  refine zh_ite (fun q => zh_ret ⟨(if_pos q).symm, fun _ _ _ => rfl⟩) fun q2 => ?_
  rw [if_neg q2]
  refine zh_ite (fun q => zh_ret ⟨(if_pos q).symm, fun _ _ _ => rfl⟩) fun q3 => ?_
  rw [if_neg q3]
  obtain ⟨n1, n2⟩ := zs_in_ne q1
  rw [zi_w_id (x := 2 * a) (by omega) (by omega)]
  refine zh_ite (fun q => zh_ret ⟨(if_pos q).symm, fun _ _ _ => rfl⟩) fun q4 => ?_
  rw [if_neg q4]
  have hb : zh_ok (zf_M_takesLog a A M B) fun _ => True := by
    rcases yl_bytes (n := a) hT (by omega) n2 (A := A) (B := B) with ⟨A', B', -, e, -⟩ | ⟨A', B', -, e⟩
    · exact zh_t e
    · exact zh_t e
  refine zh_bind hb fun r7 _ => zh_ite (fun _ => zh_ret ⟨rfl, fun _ _ _ => rfl⟩) fun _ => ?_
  obtain ⟨-, B', -, e2, -, hB⟩ := yw_lay z sp sp
  obtain ⟨mA, e3, hA⟩ := ze_begins (g0 := m) (g := aA)
  rw [e2, zl_b, e3, zl_b]
  refine zh_bind (yw_lg1M R ⟨h, u, co, ro, gp, k, z⟩ tl q3 (by omega) n2 hB) fun q49 _ => ?_
  obtain ⟨m3, e4, h4⟩ := ze_again (g0 := mA) (g := q49.2.2.2.1)
  rw [e4, zl_b]
  obtain ⟨c, f, -, -, e5⟩ := yp_count (A := q49.2.2.1) (B := q49.2.2.1) fun _ _ _ => rfl
  rw [e5, zl_b]
  have h5 : ∀ j, 0 ≤ j → j < 422 → m3 j = m j := fun j j0 j1 => by rw [h4 j j0 j1, hA j j0 j1]
  exact zh_ite (fun _ => zh_ret ⟨rfl, h5⟩) fun _ => zh_ret ⟨rfl, h5⟩
end YWGM
end
section
/-! fastest: both sides answer the same. -/
section YLG
variable {L : zLW} {K V kd fr hf to C mk mf mh mt : Int → Int} {nc tS tL sP lP mc : Int} {t h u cl sc sr ch ts p i s : Int} {co ro br wc wr m gp gl : Int → Int} {hs us : Nat → Int} {cs rs : Nat → Int → Int}
/-- the place an hour on -/
def yw_nx (L : zLW) (tS cl sc sr h u : Int) (co ro br gl : Int → Int) (p i : Int) : Int := if yv_see L tS h u cl sc sr co ro br (p % 24) (p / 24) i = true then yg_st gl p (yg_tr (p % 24) (yv_st h co i)) (ro i - p / 24) else p
/-- the skies of the hours that come -/
def yw_sq (t h u cl sc sr ch ts : Int) (co ro br wc wr gl : Int → Int) (hs us : Nat → Int) (cs rs : Nat → Int → Int) : Prop :=
  (hs 0 = h ∧ us 0 = u ∧ cs 0 = co ∧ rs 0 = ro) ∧ ∀ k, zf_Sky_passHour (hs k) (us k) (cs k) wc (rs k) wr = some (hs (k + 1), us (k + 1), cs (k + 1), rs (k + 1)) ∧ yw_wo t (hs k) (us k) cl sc sr ch ts (cs k) (rs k) br wc wr gl
theorem yw_sq_ex (w : yw_wo t h u cl sc sr ch ts co ro br wc wr gl) : ∃ hs us cs rs, yw_sq t h u cl sc sr ch ts co ro br wc wr gl hs us cs rs := by
  have nx : ∀ q : {q : Int × Int × (Int → Int) × (Int → Int) // yw_wo t q.1 q.2.1 cl sc sr ch ts q.2.2.1 q.2.2.2 br wc wr gl}, ∃ q2 : {q : Int × Int × (Int → Int) × (Int → Int) // yw_wo t q.1 q.2.1 cl sc sr ch ts q.2.2.1 q.2.2.2 br wc wr gl}, zf_Sky_passHour q.1.1 q.1.2.1 q.1.2.2.1 wc q.1.2.2.2 wr = some q2.1 := fun q => by
    obtain ⟨gp, m, k, z⟩ := q.2
    obtain ⟨h', u', co', ro', m', e2, -, k3, e4⟩ := yk_pass k
    exact ⟨⟨(h', u', co', ro'), gp, m', k3, yk_sea_fr z fun j hj => e4 j (by omega) (by omega) (by omega)⟩, e2⟩
  obtain ⟨F, hF⟩ := Classical.axiomOfChoice nx
  refine ⟨fun k => (Nat.rec (motive := fun _ => {q : Int × Int × (Int → Int) × (Int → Int) // yw_wo t q.1 q.2.1 cl sc sr ch ts q.2.2.1 q.2.2.2 br wc wr gl}) ⟨(h, u, co, ro), w⟩ (fun _ q => F q) k).1.1, fun k => (Nat.rec (motive := fun _ => {q : Int × Int × (Int → Int) × (Int → Int) // yw_wo t q.1 q.2.1 cl sc sr ch ts q.2.2.1 q.2.2.2 br wc wr gl}) ⟨(h, u, co, ro), w⟩ (fun _ q => F q) k).1.2.1, fun k => (Nat.rec (motive := fun _ => {q : Int × Int × (Int → Int) × (Int → Int) // yw_wo t q.1 q.2.1 cl sc sr ch ts q.2.2.1 q.2.2.2 br wc wr gl}) ⟨(h, u, co, ro), w⟩ (fun _ q => F q) k).1.2.2.1, fun k => (Nat.rec (motive := fun _ => {q : Int × Int × (Int → Int) × (Int → Int) // yw_wo t q.1 q.2.1 cl sc sr ch ts q.2.2.1 q.2.2.2 br wc wr gl}) ⟨(h, u, co, ro), w⟩ (fun _ q => F q) k).1.2.2.2, ⟨rfl, rfl, rfl, rfl⟩, fun k => ⟨hF _, (Nat.rec (motive := fun _ => {q : Int × Int × (Int → Int) × (Int → Int) // yw_wo t q.1 q.2.1 cl sc sr ch ts q.2.2.1 q.2.2.2 br wc wr gl}) ⟨(h, u, co, ro), w⟩ (fun _ q => F q) k).2⟩⟩
def yw_pos (L : zLW) (tS cl sc sr : Int) (hs us : Nat → Int) (cs rs : Nat → Int → Int) (br gl : Int → Int) (p0 i : Int) : Nat → Int
  | 0 => p0
  | k + 1 => yw_nx L tS cl sc sr (hs k) (us k) (cs k) (rs k) br gl (yw_pos L tS cl sc sr hs us cs rs br gl p0 i k) i
theorem yw_nx_in (w : yw_wo t h u cl sc sr ch ts co ro br wc wr gl) (p1 : 0 ≤ p) (p2 : p < 288) (i1 : 0 ≤ i) (i2 : i < 24) : 0 ≤ yw_nx L tS cl sc sr h u co ro br gl p i ∧ yw_nx L tS cl sc sr h u co ro br gl p i < 288 := by
  obtain ⟨gp, m, ⟨-, -, -, -, -, -, -, ki⟩, -⟩ := w
  obtain ⟨⟨-, ⟨r1, r2⟩, -⟩, -, -⟩ := ki i i1 i2
  unfold yw_nx
  split
  · exact yg_st_in p1 p2 (by omega) (by omega)
  · exact ⟨p1, p2⟩
theorem yw_pos_in (q : yw_sq t h u cl sc sr ch ts co ro br wc wr gl hs us cs rs) (p1 : 0 ≤ p) (p2 : p < 288) (i1 : 0 ≤ i) (i2 : i < 24) : ∀ k, 0 ≤ yw_pos L tS cl sc sr hs us cs rs br gl p i k ∧ yw_pos L tS cl sc sr hs us cs rs br gl p i k < 288
  | 0 => ⟨p1, p2⟩
  | k + 1 => by
    obtain ⟨a, b⟩ := yw_pos_in q p1 p2 i1 i2 k
    exact yw_nx_in (q.2 k).2 a b i1 i2
theorem yw_stepE (R : yl_R L K V nc tS tL sP lP kd fr hf to mc C mk mf mh mt) (w : yw_wo t h u cl sc sr ch ts co ro br wc wr gl) (p1 : 0 ≤ p) (p2 : p < 288) (i1 : 0 ≤ i) (i2 : i < 24) (hti : zb t i.toNat = true) {f2 f3 as ho f14 : Int} {g S : Int → Int} (hc : yv_ca L sP h u co ro br as ho) :
    zh_ok (zf_Pilot_step p i f2 f3 h u t sc sr cl tS as ho nc f14 sP g co ro br kd hf to K S V gl) fun o => o.1 = yw_nx L tS cl sc sr h u co ro br gl p i ∧ yv_ca L sP h u co ro br o.2.2.2.1 o.2.2.2.2.1 := by
  obtain ⟨gp, m, k, z⟩ := w
  obtain ⟨as', ho', a', g', S', e, hc'⟩ := yx_step (f2 := f2) (f3 := f3) (f14 := f14) (g := g) (S := S) R k z p1 p2 i1 i2 hti hc
  exact ⟨_, e, rfl, hc'⟩
/-- all first legs, an hour on -/
theorem yw_sflE (R : yl_R L K V nc tS tL sP lP kd fr hf to mc C mk mf mh mt) (w : yw_wo t h u cl sc sr ch ts co ro br wc wr gl) {x y as ho a : Int} {G g S : Int → Int} (hc : yv_ca L sP h u co ro br as ho) (hG : ∀ i, 0 ≤ i → i < 24 → zb t i.toNat = true → 0 ≤ G i ∧ G i < 288) :
    zh_ok (zf_Pilot_stepFirstLegs t x y h u sc sr cl tS as ho nc a sP G g co ro br kd hf to K S V gl) fun o => yv_ca L sP h u co ro br o.2.2.1 o.2.2.2.1 ∧ ∀ i, 0 ≤ i → i < 24 → zb t i.toNat = true → o.2.2.2.2.2.1 i = yw_nx L tS cl sc sr h u co ro br gl (G i) i := by
  have tin : 0 ≤ t ∧ t ≤ 2147483647 := by obtain ⟨gp, m, ⟨⟨ht, -⟩, -⟩, -⟩ := w; exact ⟨ht.1, by have := ht.2; omega⟩
  unfold zf_Pilot_stepFirstLegs
  refine zh_bind (Q := fun o => yv_ca L sP h u co ro br o.2.2.1 o.2.2.2.1 ∧ ∀ i, 0 ≤ i → i < 24 → zb t i.toNat = true → o.2.2.2.2.2.1 i = yw_nx L tS cl sc sr h u co ro br gl (G i) i) (zh_loop (F := fun f j (b : Int × Int × Int × Int × Int × (Int → Int) × (Int → Int) × (Int → Int)) => zf_Pilot_stepFirstLegs_l0 t h u sc sr cl tS nc sP co ro br kd hf to K V gl f j b.1 b.2.1 b.2.2.1 b.2.2.2.1 b.2.2.2.2.1 b.2.2.2.2.2.1 b.2.2.2.2.2.2.1 b.2.2.2.2.2.2.2) (N := 24) (I := fun j o => yv_ca L sP h u co ro br o.2.2.1 o.2.2.2.1 ∧ (∀ i, 0 ≤ i → i < j → zb t i.toNat = true → o.2.2.2.2.2.1 i = yw_nx L tS cl sc sr h u co ro br gl (G i) i) ∧ ∀ i, j ≤ i → o.2.2.2.2.2.1 i = G i) (fun f j b j0 j1 ha kk => ?_) 24 0 (x, y, as, ho, a, G, g, S) zi_fu (by decide) (by decide) (by decide) (by decide) ⟨hc, fun i i0 i1 => by omega, fun _ _ => rfl⟩) fun q hq => zh_ret hq
  obtain ⟨b1, b2, b3, b4, b5, b6, b7, b8⟩ := b
  obtain ⟨a1, a2, a3⟩ := ha
  dsimp only at a1 a2 a3
  show zh_ok (zf_Pilot_stepFirstLegs_l0_b t h u sc sr cl tS nc sP co ro br kd hf to K V gl (zf_Pilot_stepFirstLegs_l0 t h u sc sr cl tS nc sP co ro br kd hf to K V gl f) j b1 b2 b3 b4 b5 b6 b7 b8) _
  unfold zf_Pilot_stepFirstLegs_l0_b
  refine zh_ite (fun hj => ?_) fun hj => zh_ret ⟨a1, fun i i0 i1 ht => a2 i i0 (by omega) ht⟩
  rw [ze_Sky_hasStar tin.1 tin.2, zl_b, zi_w_id (x := j + 1) (by omega) (by omega)]
  have k2 : ∀ c1 c2 c3 c4 c5 c6 c7 c8, yv_ca L sP h u co ro br c3 c4 → (∀ i, 0 ≤ i → i < j + 1 → zb t i.toNat = true → c6 i = yw_nx L tS cl sc sr h u co ro br gl (G i) i) → (∀ i, j + 1 ≤ i → c6 i = G i) → zh_ok (zf_Pilot_stepFirstLegs_l0 t h u sc sr cl tS nc sP co ro br kd hf to K V gl f (j + 1) c1 c2 c3 c4 c5 c6 c7 c8) _ := fun c1 c2 c3 c4 c5 c6 c7 c8 q1 q2 q3 => kk (c1, c2, c3, c4, c5, c6, c7, c8) hj ⟨q1, q2, q3⟩
  refine zh_ite (fun q => k2 _ _ _ _ _ _ _ _ a1 (fun i i0 i1 ht => ?_) fun i i1 => a3 i (by omega)) fun q => ?_
  · by_cases e : i = j
    · subst e
      have : zs_has 24 t i = 1 := by
        unfold zs_has
        rw [if_pos ⟨i0, hj, by rw [zb_tb2 tin.1 tin.2]; exact ht⟩]
      rw [this] at q
      exact absurd q (by decide)
    · exact a2 i i0 (by omega) ht
  · have hti := yw_hs tin.1 tin.2 q
    have hp := hG j j0 hj hti
    have ej := a3 j (Int.le_refl j)
    rw [ej]
    refine zh_cond (zi_ix_of j0 hj) (zh_bind (yw_stepE R w hp.1 hp.2 j0 hj hti a1) fun r5 h5 => k2 _ _ _ _ _ _ _ _ h5.2 (fun i i0 i1 ht => ?_) fun i i1 => ?_)
    · by_cases e : i = j
      · subst e; rw [zv_up_s]; exact h5.1
      · rw [zv_up_n e]; exact a2 i i0 (by omega) ht
    · rw [zv_up_n (by omega)]; exact a3 i (by omega)
end YLG
end
section
/-! fastest in the class: the first hour, the first star. -/
section YLF
variable {L : zLW} {K V kd fr hf to C mk mf mh mt : Int → Int} {nc tS tL sP lP mc : Int} {t h u cl sc sr ch ts p i s : Int} {co ro br wc wr m gp gl : Int → Int} {hs us : Nat → Int} {cs rs : Nat → Int → Int}
def yw_hit (t : Int) (P : Int → Nat → Int) (pl : Int) (n k : Nat) (i : Int) : Prop := (1 ≤ k ∧ k ≤ n) ∧ (0 ≤ i ∧ i < 24 ∧ zb t i.toNat = true ∧ P i k = pl) ∧ (∀ j, 0 ≤ j → j < i → zb t j.toNat = true → P j k ≠ pl) ∧ ∀ l j, 1 ≤ l → l < k → 0 ≤ j → j < 24 → zb t j.toNat = true → P j l ≠ pl
def yw_noh (t : Int) (P : Int → Nat → Int) (pl : Int) (n : Nat) : Prop := ∀ l j, 1 ≤ l → l ≤ n → 0 ≤ j → j < 24 → zb t j.toNat = true → P j l ≠ pl
theorem yw_turnE (q : yw_sq t h u cl sc sr ch ts co ro br wc wr gl hs us cs rs) {k : Nat} {as : Int} {g : Int → Int} : ∃ g', zf_Pilot_turnOnward (hs k) (us k) as (cs k) wc (rs k) wr g = some (hs (k + 1), us (k + 1), 0, cs (k + 1), rs (k + 1), g') := by
  obtain ⟨g', e5, -⟩ := ze_open (f := as) (g := g)
  refine ⟨g', ?_⟩
  unfold zf_Pilot_turnOnward
  rw [(q.2 k).1, zl_b, e5, zl_b]
theorem yw_l1E {x4 x7 : Int} (h1 : 0 ≤ t) (h2 : t ≤ 2147483647) {f3 f4 f5 f6 f11 f12 f14 : Int} {g0 g1 g2 g3 g9 g14 : Int → Int} :
    zh_ok (zf_Pilot_findFastest_l1 x4 x7 t f3 f4 f5 f6 f11 f12 f14 g0 g1 g2 g3 g9 g14 zi_fu 0) fun o => match o with
      | .inl _ => ∀ i, 0 ≤ i → i < 24 → zb t i.toNat = true → g0 i ≠ x4
      | .inr b => b.1 = 1 ∧ b.2.2.2.2.2.2.2.2.1 = x7 ∧ ∃ i, (0 ≤ i ∧ i < 24 ∧ zb t i.toNat = true ∧ g0 i = x4) ∧ (∀ j, 0 ≤ j → j < i → zb t j.toNat = true → g0 j ≠ x4) ∧ b.2.2.2.2.2.2.2.2.2.1 = i := by
  refine zh_loop (F := fun f j (_ : Unit) => zf_Pilot_findFastest_l1 x4 x7 t f3 f4 f5 f6 f11 f12 f14 g0 g1 g2 g3 g9 g14 f j) (N := 24) (I := fun j _ => ∀ i, 0 ≤ i → i < j → zb t i.toNat = true → g0 i ≠ x4) (fun f j b j0 j1 ha kk => ?_) 24 0 () zi_fu (by decide) (by decide) (by decide) (by decide) (fun i i0 i1 => by omega)
  show zh_ok (zf_Pilot_findFastest_l1_b x4 x7 t f3 f4 f5 f6 f11 f12 f14 g0 g1 g2 g3 g9 g14 (zf_Pilot_findFastest_l1 x4 x7 t f3 f4 f5 f6 f11 f12 f14 g0 g1 g2 g3 g9 g14 f) j) _
  unfold zf_Pilot_findFastest_l1_b
  refine zh_ite (fun hj => ?_) fun hj => zh_ret fun i i0 i1 ht => ha i i0 (by omega) ht
  rw [ze_Sky_hasStar h1 h2, zl_b, zi_w_id (x := j + 1) (by omega) (by omega)]
  refine zh_ite (fun q => kk () hj fun i i0 i1 ht => ?_) fun q => zh_cond (zi_ix_of j0 hj) (zh_ite (fun e => zh_ret ⟨rfl, rfl, j, ⟨j0, hj, yw_hs h1 h2 q, e⟩, ha, rfl⟩) fun e => kk () hj fun i i0 i1 ht => ?_)
  · by_cases e : i = j
    · subst e
      have : zs_has 24 t i = 1 := by
        unfold zs_has
        rw [if_pos ⟨i0, hj, by rw [zb_tb2 h1 h2]; exact ht⟩]
      rw [this] at q
      exact absurd q (by decide)
    · exact ha i i0 (by omega) ht
  · by_cases e2 : i = j
    · subst e2; exact e
    · exact ha i i0 (by omega) ht
theorem yw_findFE (R : yl_R L K V nc tS tL sP lP kd fr hf to mc C mk mf mh mt) (q : yw_sq t h u cl sc sr ch ts co ro br wc wr gl hs us cs rs) {x3 x4 x5 x y as ho a f16 f17 : Int} {G g S A : Int → Int} (hc : yv_ca L sP h u co ro br as ho) (q3 : 0 ≤ x3) (q4 : x3 < 288) (q5 : 0 ≤ x5) (q6 : x5 ≤ 48) (hne : x3 ≠ x4) :
    zh_ok (zf_Pilot_findFastest x3 x4 x5 t x y h u sc sr cl tS as ho nc a sP f16 f17 G g co ro br kd hf to K S V gl wc wr A) fun o => (o.1 = 1 ∧ ∃ (k : Nat) (i : Int), yw_hit t (fun i => yw_pos L tS cl sc sr hs us cs rs br gl x3 i) x4 x5.toNat k i ∧ o.2.2.2.2.2.2.2.2.1 = k ∧ o.2.2.2.2.2.2.2.2.2.1 = i) ∨ (o.1 = 0 ∧ yw_noh t (fun i => yw_pos L tS cl sc sr hs us cs rs br gl x3 i) x4 x5.toNat) := by
  have w : yw_wo t h u cl sc sr ch ts co ro br wc wr gl := by
    obtain ⟨⟨rfl, rfl, rfl, rfl⟩, q2⟩ := q
    exact (q2 0).2
  have tin : 0 ≤ t ∧ t ≤ 2147483647 := by obtain ⟨gp, m, ⟨⟨ht, -⟩, -⟩, -⟩ := w; exact ⟨ht.1, by have := ht.2; omega⟩
  unfold zf_Pilot_findFastest
  rw [if_neg hne]
  obtain ⟨G2, e1, hG⟩ := ze_fill24 (v := x3) (g := G)
  rw [e1, zl_b]
  refine zh_sum (Q := fun o => match o with
    | .inl _ => yw_noh t (fun i => yw_pos L tS cl sc sr hs us cs rs br gl x3 i) x4 x5.toNat
    | .inr o => o.1 = 1 ∧ ∃ (k : Nat) (i : Int), yw_hit t (fun i => yw_pos L tS cl sc sr hs us cs rs br gl x3 i) x4 x5.toNat k i ∧ o.2.2.2.2.2.2.2.2.1 = k ∧ o.2.2.2.2.2.2.2.2.2.1 = i) (zh_loop (F := fun f j (b : Int × Int × Int × Int × Int × Int × Int × (Int → Int) × (Int → Int) × (Int → Int) × (Int → Int) × (Int → Int) × (Int → Int)) => zf_Pilot_findFastest_l0 x4 x5 t sc sr cl tS nc sP br kd hf to K V gl wc wr f j b.1 b.2.1 b.2.2.1 b.2.2.2.1 b.2.2.2.2.1 b.2.2.2.2.2.1 b.2.2.2.2.2.2.1 b.2.2.2.2.2.2.2.1 b.2.2.2.2.2.2.2.2.1 b.2.2.2.2.2.2.2.2.2.1 b.2.2.2.2.2.2.2.2.2.2.1 b.2.2.2.2.2.2.2.2.2.2.2.1 b.2.2.2.2.2.2.2.2.2.2.2.2) (N := x5 + 1) (I := fun j o => ∃ k : Nat, j = k + 1 ∧ (o.2.2.1 = hs k ∧ o.2.2.2.1 = us k ∧ o.2.2.2.2.2.2.2.2.2.1 = cs k ∧ o.2.2.2.2.2.2.2.2.2.2.1 = rs k) ∧ yv_ca L sP (hs k) (us k) (cs k) (rs k) br o.2.2.2.2.1 o.2.2.2.2.2.1 ∧ (∀ i, 0 ≤ i → i < 24 → zb t i.toNat = true → o.2.2.2.2.2.2.2.1 i = yw_pos L tS cl sc sr hs us cs rs br gl x3 i k) ∧ yw_noh t (fun i => yw_pos L tS cl sc sr hs us cs rs br gl x3 i) x4 k) (fun f j b j0 j1 ha kk => ?_) 49 1 (x, y, h, u, as, ho, a, G2, g, co, ro, S, A) zi_fu (by omega) (by decide) (by omega) (by decide) ⟨0, rfl, ⟨q.1.1.symm, q.1.2.1.symm, q.1.2.2.1.symm, q.1.2.2.2.symm⟩, by rw [q.1.1, q.1.2.1, q.1.2.2.1, q.1.2.2.2]; exact hc, fun i i0 i1 _ => hG i i0 i1, fun l j l1 l2 => by omega⟩) (fun _ hq => zh_ret (.inr ⟨rfl, hq⟩)) fun _ hq => zh_ret (.inl hq)
  obtain ⟨b1, b2, b3, b4, b5, b6, b7, b8, b9, b10, b11, b12, b13⟩ := b
  obtain ⟨k, ek, ⟨rfl, rfl, rfl, rfl⟩, c2, hp, hn⟩ := ha
  dsimp only at c2 hp
  show zh_ok (zf_Pilot_findFastest_l0_b x4 x5 t sc sr cl tS nc sP br kd hf to K V gl wc wr (zf_Pilot_findFastest_l0 x4 x5 t sc sr cl tS nc sP br kd hf to K V gl wc wr f) j b1 b2 (hs k) (us k) b5 b6 b7 b8 b9 (cs k) (rs k) b12 b13) _
  unfold zf_Pilot_findFastest_l0_b
  refine zh_ite (fun hlt => zh_ret fun l j2 l1 l2 => hn l j2 l1 (by omega)) fun hle => ?_
  rw [zi_w_id (x := j + 1) (by omega) (by omega)]
  refine zh_bind (yw_sflE R (q.2 k).2 c2 fun i i0 i1 ht => by rw [hp i i0 i1 ht]; exact yw_pos_in q q3 q4 i0 i1 k) fun r4 h4 => ?_
  have hp2 : ∀ i, 0 ≤ i → i < 24 → zb t i.toNat = true → r4.2.2.2.2.2.1 i = yw_pos L tS cl sc sr hs us cs rs br gl x3 i (k + 1) := fun i i0 i1 ht => by
    rw [h4.2 i i0 i1 ht, hp i i0 i1 ht]; rfl
  refine zh_bind (yw_l1E tin.1 tin.2) fun o ho => ?_
  match o, ho with
  | .inl e, ho =>
    obtain ⟨g', e7⟩ := yw_turnE (k := k) (as := r4.2.2.1) (g := b13) q
    show zh_ok ((zf_Pilot_turnOnward (hs k) (us k) r4.2.2.1 (cs k) wc (rs k) wr b13).bind _) _
    rw [e7, zl_b]
    refine kk (r4.1, r4.2.1, hs (k + 1), us (k + 1), 0, r4.2.2.2.1, r4.2.2.2.2.1, r4.2.2.2.2.2.1, r4.2.2.2.2.2.2.1, cs (k + 1), rs (k + 1), r4.2.2.2.2.2.2.2, g') (by omega) ⟨k + 1, by omega, ⟨rfl, rfl, rfl, rfl⟩, yv_ca0, hp2, fun l j2 l1 l2 j3 j4 ht => ?_⟩
    by_cases e2 : l = k + 1
    · subst e2
      show yw_pos L tS cl sc sr hs us cs rs br gl x3 j2 (k + 1) ≠ x4
      rw [← hp2 j2 j3 j4 ht]
      exact ho j2 j3 j4 ht
    · exact hn l j2 l1 (by omega) j3 j4 ht
  | .inr e, ho =>
    obtain ⟨o1, o2, i, ⟨i0, i1, ht, e3⟩, o3, o4⟩ := ho
    refine zh_ret ⟨o1, k + 1, i, ⟨⟨by omega, by omega⟩, ⟨i0, i1, ht, by show yw_pos L tS cl sc sr hs us cs rs br gl x3 i (k + 1) = x4; rw [← hp2 i i0 i1 ht]; exact e3⟩, fun j2 j3 j4 ht2 => ?_, fun l j2 l1 l2 => hn l j2 l1 (by omega)⟩, by rw [o2, ek]; omega, o4⟩
    show yw_pos L tS cl sc sr hs us cs rs br gl x3 j2 (k + 1) ≠ x4
    rw [← hp2 j2 j3 (by omega) ht2]
    exact o3 j2 j3 j4 ht2
end YLF
end
section
/-! fastest in the reference: the first hour, the first star; both the same. -/
section YLM
variable {L : zLW} {K V kd fr hf to C mk mf mh mt : Int → Int} {nc tS tL sP lP mc : Int} {t h u cl sc sr ch ts p i s : Int} {co ro br wc wr m gp gl : Int → Int} {hs us : Nat → Int} {cs rs : Nat → Int → Int}
/-- the reference at hour k, the ship at q -/
def yw_mk (t cl sc sr ch ts s : Int) (br wc wr gl : Int → Int) (hs us : Nat → Int) (cs rs : Nat → Int → Int) (k : Nat) (q : Int) (m : Int → Int) : Prop := ∃ gp, yk_sky t (hs k) (us k) cl sc sr ch (cs k) (rs k) br wc wr m ∧ yk_sea ts gp gl m ∧ gp s = q
theorem ym_steerE (R : yl_R L K V nc tS tL sP lP kd fr hf to mc C mk mf mh mt) (sq : yw_sq t h u cl sc sr ch ts co ro br wc wr gl hs us cs rs) {k : Nat} {q : Int} (hm : yw_mk t cl sc sr ch ts s br wc wr gl hs us cs rs k q m) (s0 : 0 ≤ s) (s1 : s < 6) (i1 : 0 ≤ i) (i2 : i < 24) (hti : zb t i.toNat = true) {g S : Int → Int} :
    zh_ok (zf_M_steers s i 0 mc m mk g mh mt C S mf) fun o => yw_mk t cl sc sr ch ts s br wc wr gl hs us cs rs (k + 1) (yw_nx L tS cl sc sr (hs k) (us k) (cs k) (rs k) br gl q i) o.1 := by
  obtain ⟨gp, kk, z, rfl⟩ := hm
  obtain ⟨p1, p2⟩ := z.2 s s0 s1
  obtain ⟨g', S', e1⟩ := ym_steersFrom (g := g) (S := S) R kk z p1 p2 i1 i2 hti
  have hq := yw_nx_in (L := L) (tS := tS) (sq.2 k).2 p1 p2 i1 i2
  have z2 := yk_sea_up z s0 s1 hq.1 hq.2
  have k2 : yk_sky t (hs k) (us k) cl sc sr ch (cs k) (rs k) br wc wr (zv_up m (120 + s) (yw_nx L tS cl sc sr (hs k) (us k) (cs k) (rs k) br gl (gp s) i)) := yk_sky_fr kk fun j hj => zv_up_n (by omega)
  obtain ⟨h', u', co', ro', m', e2, e3, k3, e4⟩ := yk_pass k2
  have e5 := (sq.2 k).1
  rw [e2] at e5
  cases e5
  have z3 : yk_sea ts (zv_up gp s (yw_nx L tS cl sc sr (hs k) (us k) (cs k) (rs k) br gl (gp s) i)) gl m' := yk_sea_fr z2 fun j hj => e4 j (by omega) (by omega) (by omega)
  unfold zf_M_steers
  rw [if_pos rfl, zi_w_id (x := 120 + s) (by omega) (by omega), zl_ci (by omega) (by omega), z.1.2.2.2.1 s s0 s1, e1, zl_b]
  dsimp only
  show zh_ok ((zf_M_passes (zv_up m (120 + s) (yw_nx L tS cl sc sr (hs k) (us k) (cs k) (rs k) br gl (gp s) i))).bind _) _
  rw [e3, zl_b]
  exact zh_ret ⟨_, k3, z3, zv_up_s⟩
theorem yw_comesByE (R : yl_R L K V nc tS tL sP lP kd fr hf to mc C mk mf mh mt) (sq : yw_sq t h u cl sc sr ch ts co ro br wc wr gl hs us cs rs) {p0 : Int} (hm : yw_mk t cl sc sr ch ts s br wc wr gl hs us cs rs 0 p0 m) (s0 : 0 ≤ s) (s1 : s < 6) (i1 : 0 ≤ i) (i2 : i < 24) (hti : zb t i.toNat = true) {n : Int} (n0 : 0 ≤ n) (n1 : n ≤ 48) {g S : Int → Int} :
    zh_ok (zf_M_comesBy s i p n mc m mk g mh mt C S mf) fun o => (∃ k : Nat, (k : Int) ≤ n ∧ o.1 = k ∧ yw_pos L tS cl sc sr hs us cs rs br gl p0 i k = p ∧ ∀ l, l < k → yw_pos L tS cl sc sr hs us cs rs br gl p0 i l ≠ p) ∨ (o.1 = -1 ∧ ∀ l : Nat, (l : Int) ≤ n → yw_pos L tS cl sc sr hs us cs rs br gl p0 i l ≠ p) := by
  unfold zf_M_comesBy
  refine zh_sum (Q := fun o => match o with
    | .inl _ => ∀ l : Nat, (l : Int) ≤ n → yw_pos L tS cl sc sr hs us cs rs br gl p0 i l ≠ p
    | .inr o => ∃ k : Nat, (k : Int) ≤ n ∧ o.1 = k ∧ yw_pos L tS cl sc sr hs us cs rs br gl p0 i k = p ∧ ∀ l, l < k → yw_pos L tS cl sc sr hs us cs rs br gl p0 i l ≠ p) (zh_loop (F := fun f j (a : (Int → Int) × (Int → Int) × (Int → Int)) => zf_M_comesBy_l0 s i p n mc mk mh mt C mf f j a.1 a.2.1 a.2.2) (N := n + 1) (I := fun j a => ∃ k : Nat, j = k ∧ (j ≤ n → yw_mk t cl sc sr ch ts s br wc wr gl hs us cs rs k (yw_pos L tS cl sc sr hs us cs rs br gl p0 i k) a.1) ∧ ∀ l, l < k → yw_pos L tS cl sc sr hs us cs rs br gl p0 i l ≠ p) (fun f j a j0 j1 ha kk => ?_) 49 0 (m, g, S) zi_fu (by omega) (by decide) (by omega) (by decide) ⟨0, rfl, fun _ => hm, fun l hl => by omega⟩) (fun _ hq => zh_ret (.inr ⟨rfl, hq⟩)) fun _ hq => zh_ret (.inl hq)
  obtain ⟨a1, a2, a3⟩ := a
  obtain ⟨k, ek, hm2, hn⟩ := ha
  dsimp only at hm2
  show zh_ok (zf_M_comesBy_l0_b s i p n mc mk mh mt C mf (zf_M_comesBy_l0 s i p n mc mk mh mt C mf f) j a1 a2 a3) _
  unfold zf_M_comesBy_l0_b
  refine zh_ite (fun hlt => zh_ret fun l hl => hn l (by omega)) fun hle => ?_
  have hm3 := hm2 (by omega)
  rw [zi_w_id (x := 120 + s) (by omega) (by omega), zi_w_id (x := j + 1) (by omega) (by omega)]
  have hpos : a1 (120 + s) = yw_pos L tS cl sc sr hs us cs rs br gl p0 i k := by
    obtain ⟨gp2, -, z2, e⟩ := hm3
    rw [z2.1.2.2.2.1 s s0 s1, e]
  refine zh_cond (zi_ix_of (by omega) (by omega)) (zh_ite (fun e => zh_ret ⟨k, by omega, ek, by rw [← hpos]; exact e, hn⟩) fun e => ?_)
  have hn2 : ∀ l, l < k + 1 → yw_pos L tS cl sc sr hs us cs rs br gl p0 i l ≠ p := fun l hl => by
    by_cases e2 : l = k
    · subst e2; rw [← hpos]; exact e
    · exact hn l (by omega)
  refine zh_ite (fun hjn => zh_bind (ym_steerE R sq hm3 s0 s1 i1 i2 hti) fun r5 h5 => ?_) fun hjn => ?_
  · exact kk (_, _, _) (by omega) ⟨k + 1, by omega, fun _ => h5, hn2⟩
  · exact kk (_, _, _) (by omega) ⟨k + 1, by omega, fun h => by omega, hn2⟩
theorem yw_ml0 (R : yl_R L K V nc tS tL sP lP kd fr hf to mc C mk mf mh mt) (sq : yw_sq t h u cl sc sr ch ts co ro br wc wr gl hs us cs rs) {p0 : Int} {mA : Int → Int} (hmA : ∀ m2, (∀ j, 0 ≤ j → j < 422 → m2 j = mA j) → yw_mk t cl sc sr ch ts s br wc wr gl hs us cs rs 0 p0 m2) (b126 : mA 126 = t) (s0 : 0 ≤ s) (s1 : s < 6) {n : Int} (n0 : 1 ≤ n) (n1 : n ≤ 48) (tin : 0 ≤ t ∧ t ≤ 2147483647) (hne : p0 ≠ p) {m1 g S : Int → Int} :
    zh_ok (zf_M_fastest_l0 s n p mc mA mk mh mt C mf zi_fu 1000000000 (-2) 0 m1 g S) fun o => (∃ (k : Nat) (i : Int), yw_hit t (fun i => yw_pos L tS cl sc sr hs us cs rs br gl p0 i) p n.toNat k i ∧ o.1 = k ∧ o.2.1 = i) ∨ (o.1 = 1000000000 ∧ yw_noh t (fun i => yw_pos L tS cl sc sr hs us cs rs br gl p0 i) p n.toNat) := by
  refine zh_loop (F := fun f i (a : Int × Int × (Int → Int) × (Int → Int) × (Int → Int)) => zf_M_fastest_l0 s n p mc mA mk mh mt C mf f a.1 a.2.1 i a.2.2.1 a.2.2.2.1 a.2.2.2.2) (N := 24) (I := fun j a => (∃ (k : Nat) (i : Int), ((1 ≤ k ∧ (k : Int) ≤ n) ∧ (0 ≤ i ∧ i < j ∧ zb t i.toNat = true ∧ yw_pos L tS cl sc sr hs us cs rs br gl p0 i k = p) ∧ (∀ j2, 0 ≤ j2 → j2 < i → zb t j2.toNat = true → yw_pos L tS cl sc sr hs us cs rs br gl p0 j2 k ≠ p) ∧ ∀ l j2, 1 ≤ l → l < k → 0 ≤ j2 → j2 < j → zb t j2.toNat = true → yw_pos L tS cl sc sr hs us cs rs br gl p0 j2 l ≠ p) ∧ a.1 = k ∧ a.2.1 = i) ∨ (a.1 = 1000000000 ∧ ∀ (l : Nat) j2, (l : Int) ≤ n → 0 ≤ j2 → j2 < j → zb t j2.toNat = true → yw_pos L tS cl sc sr hs us cs rs br gl p0 j2 l ≠ p)) (fun f j a j0 j1 ha kk => ?_) 24 0 (1000000000, -2, m1, g, S) zi_fu (by decide) (by decide) (by decide) (by decide) (.inr ⟨rfl, fun l j2 _ h1 h2 => by omega⟩)
  obtain ⟨a1, a2, a3, a4, a5⟩ := a
  dsimp only at ha
  show zh_ok (zf_M_fastest_l0_b s n p mc mA mk mh mt C mf (zf_M_fastest_l0 s n p mc mA mk mh mt C mf f) a1 a2 j a3 a4 a5) _
  unfold zf_M_fastest_l0_b
  refine zh_ite (fun hj => ?_) fun hj => zh_ret ?_
  · obtain ⟨mB, e2, hB⟩ := ze_again (g0 := mA) (g := a3)
    have hmB := hmA mB hB
    have c126 : mB 126 = t := by rw [hB 126 (by decide) (by decide), b126]
    rw [e2, zl_b, ze_M_isTold (by rw [c126]; exact tin.1) (by rw [c126]; exact tin.2), c126, zl_b, zi_w_id (x := j + 1) (by omega) (by omega)]
    have k2 : ∀ (b1 b2 : Int) (b3 b4 b5 : Int → Int), ((∃ (k : Nat) (i : Int), ((1 ≤ k ∧ (k : Int) ≤ n) ∧ (0 ≤ i ∧ i < j + 1 ∧ zb t i.toNat = true ∧ yw_pos L tS cl sc sr hs us cs rs br gl p0 i k = p) ∧ (∀ j2, 0 ≤ j2 → j2 < i → zb t j2.toNat = true → yw_pos L tS cl sc sr hs us cs rs br gl p0 j2 k ≠ p) ∧ ∀ l j2, 1 ≤ l → l < k → 0 ≤ j2 → j2 < j + 1 → zb t j2.toNat = true → yw_pos L tS cl sc sr hs us cs rs br gl p0 j2 l ≠ p) ∧ b1 = k ∧ b2 = i) ∨ (b1 = 1000000000 ∧ ∀ (l : Nat) j2, (l : Int) ≤ n → 0 ≤ j2 → j2 < j + 1 → zb t j2.toNat = true → yw_pos L tS cl sc sr hs us cs rs br gl p0 j2 l ≠ p)) → zh_ok (zf_M_fastest_l0 s n p mc mA mk mh mt C mf f b1 b2 (j + 1) b3 b4 b5) _ := fun b1 b2 b3 b4 b5 hh => kk (b1, b2, b3, b4, b5) hj hh
    refine zh_ite (fun q6 => k2 _ _ _ _ _ ?_) fun q6 => ?_
    · have hno : ¬ zb t j.toNat = true := fun ht => by
        have : zs_has 24 t j = 1 := by
          unfold zs_has
          rw [if_pos ⟨j0, hj, by rw [zb_tb2 tin.1 tin.2]; exact ht⟩]
        rw [this] at q6
        exact absurd q6 (by decide)
      rcases ha with ⟨k, i, ⟨x1, ⟨x2, x3, x4, x5⟩, x6, x7⟩, x8, x9⟩ | ⟨x1, x2⟩
      · refine .inl ⟨k, i, ⟨x1, ⟨x2, by omega, x4, x5⟩, x6, fun l j2 l1 l2 y0 y1 ht => x7 l j2 l1 l2 y0 ?_ ht⟩, x8, x9⟩
        by_cases e : j2 = j
        · subst e; exact absurd ht hno
        · omega
      · refine .inr ⟨x1, fun l j2 l1 y0 y1 ht => x2 l j2 l1 y0 ?_ ht⟩
        by_cases e : j2 = j
        · subst e; exact absurd ht hno
        · omega
    · have hti := yw_hs tin.1 tin.2 q6
      refine zh_bind (yw_comesByE R sq hmB s0 s1 j0 hj hti (by omega) (by omega)) fun r18 h18 => ?_
      rcases h18 with ⟨k, k1, o1, pk, pl⟩ | ⟨o1, pl⟩
      · have kpos : 1 ≤ k := by
          rcases Nat.eq_zero_or_pos k with e | e
          · subst e; exact absurd pk hne
          · exact e
        rw [o1, if_neg (by omega)]
        rcases ha with ⟨kb, ib, ⟨x1, ⟨x2, x3, x4, x5⟩, x6, x7⟩, rfl, rfl⟩ | ⟨rfl, x2⟩
        · refine zh_ite (fun c1 => k2 _ _ _ _ _ (.inl ⟨kb, a2, ⟨x1, ⟨x2, by omega, x4, x5⟩, x6, fun l j2 l1 l2 y0 y1 ht => ?_⟩, rfl, rfl⟩)) fun c1 => zh_ite (fun c2 => zh_ite (fun c3 => by omega) fun _ => k2 _ _ _ _ _ (.inl ⟨kb, a2, ⟨x1, ⟨x2, by omega, x4, x5⟩, x6, fun l j2 l1 l2 y0 y1 ht => ?_⟩, rfl, rfl⟩)) fun c2 => k2 _ _ _ _ _ (.inl ⟨k, j, ⟨⟨kpos, k1⟩, ⟨j0, by omega, hti, pk⟩, fun j2 y0 y1 ht => x7 k j2 kpos (by omega) y0 y1 ht, fun l j2 l1 l2 y0 y1 ht => ?_⟩, rfl, rfl⟩)
          · by_cases e : j2 = j
            · subst e; exact pl l (by omega)
            · exact x7 l j2 l1 l2 y0 (by omega) ht
          · by_cases e : j2 = j
            · subst e; exact pl l (by omega)
            · exact x7 l j2 l1 l2 y0 (by omega) ht
          · by_cases e : j2 = j
            · subst e; exact pl l (by omega)
            · exact x7 l j2 l1 (by omega) y0 (by omega) ht
        · refine zh_ite (fun c1 => by omega) fun c1 => zh_ite (fun c2 => by omega) fun c2 => k2 _ _ _ _ _ (.inl ⟨k, j, ⟨⟨kpos, k1⟩, ⟨j0, by omega, hti, pk⟩, fun j2 y0 y1 ht => x2 k j2 k1 y0 y1 ht, fun l j2 l1 l2 y0 y1 ht => ?_⟩, rfl, rfl⟩)
          by_cases e : j2 = j
          · subst e; exact pl l (by omega)
          · exact x2 l j2 (by omega) y0 (by omega) ht
      · rw [o1, if_pos rfl]
        rcases ha with ⟨kb, ib, ⟨x1, ⟨x2, x3, x4, x5⟩, x6, x7⟩, rfl, rfl⟩ | ⟨rfl, x2⟩
        · refine k2 _ _ _ _ _ (.inl ⟨kb, a2, ⟨x1, ⟨x2, by omega, x4, x5⟩, x6, fun l j2 l1 l2 y0 y1 ht => ?_⟩, rfl, rfl⟩)
          by_cases e : j2 = j
          · subst e; exact pl l (by omega)
          · exact x7 l j2 l1 l2 y0 (by omega) ht
        · refine k2 _ _ _ _ _ (.inr ⟨rfl, fun l j2 l1 y0 y1 ht => ?_⟩)
          by_cases e : j2 = j
          · subst e; exact pl l l1
          · exact x2 l j2 l1 y0 (by omega) ht
  · rcases ha with ⟨k, i, ⟨x1, ⟨x2, x3, x4, x5⟩, x6, x7⟩, x8, x9⟩ | ⟨x1, x2⟩
    · exact .inl ⟨k, i, ⟨⟨x1.1, by omega⟩, ⟨x2, by omega, x4, x5⟩, x6, fun l j2 l1 l2 y0 y1 ht => x7 l j2 l1 l2 y0 (by omega) ht⟩, x8, x9⟩
    · exact .inr ⟨x1, fun l j2 l1 l2 y0 y1 ht => x2 l j2 (by omega) y0 (by omega) ht⟩
theorem yw_hit_1 {P : Int → Nat → Int} {pl : Int} {n k k2 : Nat} {i2 : Int} (a : yw_hit t P pl n k i) (b : yw_hit t P pl n k2 i2) : k = k2 ∧ i = i2 := by
  obtain ⟨⟨a1, a2⟩, ⟨a3, a4, a5, a6⟩, a7, a8⟩ := a
  obtain ⟨⟨b1, b2⟩, ⟨b3, b4, b5, b6⟩, b7, b8⟩ := b
  have e : k = k2 := by
    rcases Nat.lt_trichotomy k k2 with h | h | h
    · exact absurd a6 (b8 k i a1 h a3 a4 a5)
    · exact h
    · exact absurd b6 (a8 k2 i2 b1 h b3 b4 b5)
  subst e
  refine ⟨rfl, ?_⟩
  rcases Int.lt_trichotomy i i2 with h | h | h
  · exact absurd a6 (b7 i a3 h a5)
  · exact h
  · exact absurd b6 (a7 i2 b3 h b5)
theorem yw_hit_no {P : Int → Nat → Int} {pl : Int} {n k : Nat} (a : yw_hit t P pl n k i) (b : yw_noh t P pl n) : False := b k i a.1.1 a.1.2 a.2.1.1 a.2.1.2.1 a.2.1.2.2.1 a.2.1.2.2.2
end YLM
end
section
/-! fastest: the same answer. -/
section YLZ
theorem ze_lowE {x : Int} (hx : z24 x) (h0 : x ≠ 0) : ∃ r : Nat, r < 24 ∧ zb x r = true ∧ (∀ j, j < r → zb x j = false) ∧ zf_X_lowestOf x = some (r : Int) := by
  have hex : ∃ j, j < 24 ∧ zb x j = true := by
    by_cases q : ∃ j, j < 24 ∧ zb x j = true
    · exact q
    · refine absurd ((z24_z hx).mpr fun j hj => ?_) h0
      cases c : zb x j
      · rfl
      · exact absurd ⟨j, hj, c⟩ q
  obtain ⟨r, r1, r2, r3⟩ := yn_low 24 hex
  have hand : zi_and x (zi_w (-x)) = zi_shl 1 r := by
    refine z24_ext (z24_and hx) (z24_shl (by omega) (by omega)) fun j hj => ?_
    rw [zb_and, zb_neg hx.1 (by have := hx.2; omega) (by omega), zb_shl (by omega) (by omega), Int.toNat_natCast]
    by_cases e : j = r
    · subst e
      rw [r2, decide_eq_true (rfl : j = j)]
      have : ¬ ∃ i, i < j ∧ zb x i = true := fun ⟨i, a, b⟩ => by rw [r3 i a] at b; cases b
      rw [decide_eq_false this]; rfl
    · rw [decide_eq_false e]
      by_cases c : j < r
      · rw [r3 j c, Bool.false_and]
      · rw [decide_eq_true (⟨r, by omega, r2⟩ : ∃ i, i < j ∧ zb x i = true)]
        cases zb x j <;> rfl
  refine ⟨r, r1, r2, r3, ?_⟩
  unfold zf_X_lowestOf
  have hd : ∀ k : Nat, k < 24 → zf_Integer_bitCount (zi_w (zi_shl 1 k - 1)) = some (k : Int) := by
    have hd2 : ∀ k : Nat, k < 24 → (0 ≤ zi_w (zi_shl 1 k - 1) ∧ zi_w (zi_shl 1 k - 1) < 16777216) ∧ zs_sum (zi_w (zi_shl 1 k - 1)) 24 = k := by decide +kernel
    intro k hk
    obtain ⟨⟨a, b⟩, c⟩ := hd2 k hk
    rw [ze_bitCount a b, c]
  rw [hand, hd r r1, zl_b]
variable {L : zLW} {K V kd fr hf to C mk mf mh mt : Int → Int} {nc tS tL sP lP mc : Int} {t h u cl sc sr ch ts p i s : Int} {co ro br wc wr m gp gl : Int → Int} {hs us : Nat → Int} {cs rs : Nat → Int → Int}
/-- the answer, by the places of the hours -/
def yw_fa (t w : Int) (P : Int → Nat → Int) (p0 pl : Int) (n : Nat) (r : Int) : Prop :=
  (p0 = pl ∧ ∃ i : Nat, (i < 24 ∧ zb t i = true ∧ ∀ j, j < i → zb t j = false) ∧ r = if w = 0 then 0 else (i : Int)) ∨
  (p0 ≠ pl ∧ ((∃ (k : Nat) (i : Int), yw_hit t P pl n k i ∧ r = if w = 0 then (k : Int) else i) ∨ (yw_noh t P pl n ∧ r = -2)))
theorem yw_fa_1 {w : Int} {P : Int → Nat → Int} {p0 pl : Int} {n : Nat} {r r2 : Int} (a : yw_fa t w P p0 pl n r) (b : yw_fa t w P p0 pl n r2) : r = r2 := by
  rcases a with ⟨e, i, ⟨i1, i2, i3⟩, rfl⟩ | ⟨e, a⟩
  · rcases b with ⟨-, j, ⟨j1, j2, j3⟩, rfl⟩ | ⟨e2, -⟩
    · have : i = j := by
        rcases Nat.lt_trichotomy i j with h | h | h
        · rw [j3 i h] at i2; cases i2
        · exact h
        · rw [i3 j h] at j2; cases j2
      rw [this]
    · exact absurd e e2
  · rcases b with ⟨e2, -⟩ | ⟨-, b⟩
    · exact absurd e2 e
    · rcases a with ⟨k, i, a1, rfl⟩ | ⟨a1, rfl⟩
      · rcases b with ⟨k2, i2, b1, rfl⟩ | ⟨b1, rfl⟩
        · obtain ⟨rfl, rfl⟩ := yw_hit_1 a1 b1; rfl
        · exact absurd b1 (yw_hit_no a1)
      · rcases b with ⟨k2, i2, b1, rfl⟩ | ⟨b1, rfl⟩
        · exact absurd a1 (yw_hit_no b1)
        · rfl
def yw_fbad (ts t s x y n w : Int) : Prop := zs_has 6 ts s = 0 ∨ zs_pl x y = 0 ∨ t = 0 ∨ zs_in n 1 48 = 0 ∨ zs_in w 0 1 = 0
theorem yw_askE {s x y : Int} (h1 : 0 ≤ ts) (h2 : ts ≤ 2147483647) : zh_ok (zf_X_canAskVoyage s x y ts t) fun r => (r = 0 → zs_has 6 ts s = 0 ∨ zs_pl x y = 0 ∨ t = 0) ∧ (¬ r = 0 → ¬ zs_has 6 ts s = 0 ∧ ¬ zs_pl x y = 0 ∧ ¬ t = 0) := by
  unfold zf_X_canAskVoyage
  rw [ze_Sea_hasShip h1 h2, zl_b]
  refine zh_ite (fun q => zh_ret ⟨fun _ => .inl q, fun q2 => absurd rfl q2⟩) fun q1 => ?_
  rw [ze_X_isPlace, zl_b]
  exact zh_ite (fun q => zh_ret ⟨fun _ => .inr (.inl q), fun q2 => absurd rfl q2⟩) fun q2 => zh_ite (fun q => zh_ret ⟨fun _ => .inr (.inr q), fun q2 => absurd rfl q2⟩) fun q3 => zh_ret ⟨fun q => absurd q (by decide), fun _ => ⟨q1, q2, q3⟩⟩
theorem yw_fastXE (R : yl_R L K V nc tS tL sP lP kd fr hf to mc C mk mf mh mt) (k : yk_sky t h u cl sc sr ch co ro br wc wr m) (z : yk_sea ts gp gl m) {s x y n w : Int} {f2 f4 f6 f8 f10 f12 f14 f18 f19 f20 f22 f24 f26 f27 : Int} {g1 g3 g5 g7 g9 g10 g12 g13 g18 : Int → Int} (sq : yw_sq t h u cl sc sr ch ts (zv_cpy co g1 24) (zv_cpy ro g3 24) (zv_cpy br g5 24) (zv_cpy wc g7 24) (zv_cpy wr g9 24) gl hs us cs rs) :
    zh_ok (zf_X_fastest s x y n w ts t f2 h f4 u f6 cl f8 sc f10 sr f12 ch f14 f18 f19 f20 tS f22 nc f24 sP f26 f27 co g1 ro g3 br g5 wc g7 wr g9 g10 gp g12 g13 kd hf to K g18 V gl) fun o => (yw_fbad ts t s x y n w ∧ o.1 = -1) ∨ (¬ yw_fbad ts t s x y n w ∧ yw_fa t w (fun i => yw_pos L tS cl sc sr hs us cs rs (zv_cpy br g5 24) gl (gp s) i) (gp s) (24 * y + x) n.toNat o.1) := by
  obtain ⟨⟨ht, -⟩, -⟩ := id k
  obtain ⟨⟨t1, t2, -⟩, hb⟩ := id z
  unfold zf_X_fastest
  refine zh_bind (yw_askE t1 (by omega)) fun r1 h1 => zh_ite (fun q1 => zh_ret (.inl ⟨?_, rfl⟩)) fun q1 => ?_
  · rcases h1.1 q1 with a | a | a
    · exact .inl a
    · exact .inr (.inl a)
    · exact .inr (.inr (.inl a))
  obtain ⟨b1, b2, b3⟩ := h1.2 q1
  obtain ⟨s0, s1, -⟩ := zs_has_ne b1
  obtain ⟨x0, x1, y0, y1⟩ := zs_pl_ne b2
  rw [ze_X_isWithin, zl_b]
  refine zh_ite (fun q => zh_ret (.inl ⟨.inr (.inr (.inr (.inl q))), rfl⟩)) fun q2 => ?_
  rw [ze_X_isWithin, zl_b]
  refine zh_ite (fun q => zh_ret (.inl ⟨.inr (.inr (.inr (.inr q))), rfl⟩)) fun q3 => ?_
  have hgood : ¬ yw_fbad ts t s x y n w := fun hb => by
    rcases hb with a | a | a | a | a
    · exact b1 a
    · exact b2 a
    · exact b3 a
    · exact q2 a
    · exact q3 a
  obtain ⟨n0, n1⟩ := zs_in_ne q2
  unfold zf_Sky_copyFrom
  rw [zl_b]
  dsimp only
  obtain ⟨gA, e0, h0⟩ := ze_open (f := f18) (g := g10)
  rw [e0, zl_b, ze_X_placeOf x0 x1 y0 y1, zl_b]
  have hp := hb s s0 s1
  refine zh_cond (zi_ix_of s0 s1) (zh_bind (Q := fun o => (o.1 = 1 ∧ yw_fa t w (fun i => yw_pos L tS cl sc sr hs us cs rs (zv_cpy br g5 24) gl (gp s) i) (gp s) (24 * y + x) n.toNat (if w = 0 then o.2.2.2.2.2.2.2.2.1 else o.2.2.2.2.2.2.2.2.2.1)) ∨ (o.1 = 0 ∧ yw_fa t w (fun i => yw_pos L tS cl sc sr hs us cs rs (zv_cpy br g5 24) gl (gp s) i) (gp s) (24 * y + x) n.toNat (-2))) ?_ fun r11 h11 => zh_ite (fun c => ?_) fun c => ?_)
  · by_cases hne : gp s = 24 * y + x
    · obtain ⟨r, r1, r2, r3, e9⟩ := ze_lowE ht b3
      unfold zf_Pilot_findFastest
      rw [if_pos hne, e9, zl_b]
      refine zh_ret (.inl ⟨rfl, .inl ⟨hne, r, ⟨r1, r2, r3⟩, ?_⟩⟩)
      by_cases cw : w = 0
      · rw [if_pos cw]; (try rfl)
      · rw [if_neg cw]; (try rfl)
    · refine zh_mono (yw_findFE R sq yv_ca0 hp.1 hp.2 (by omega) n1 hne) fun o ho => ?_
      rcases ho with ⟨o1, kk, i, o2, o3, o4⟩ | ⟨o1, o2⟩
      · refine .inl ⟨o1, .inr ⟨hne, .inl ⟨kk, i, o2, ?_⟩⟩⟩
        by_cases cw : w = 0
        · rw [if_pos cw, if_pos cw, o3]
        · rw [if_neg cw, if_neg cw, o4]
      · exact .inr ⟨o1, .inr ⟨hne, .inr ⟨o2, rfl⟩⟩⟩
  · rcases h11 with ⟨a, -⟩ | ⟨-, a⟩
    · omega
    · exact zh_ret (.inr ⟨hgood, a⟩)
  · rcases h11 with ⟨-, a⟩ | ⟨a, -⟩
    · refine zh_ite (fun cw => zh_ret (.inr ⟨hgood, ?_⟩)) fun cw => zh_ret (.inr ⟨hgood, ?_⟩)
      · rw [if_pos cw] at a; exact a
      · rw [if_neg cw] at a; exact a
    · exact absurd a c
/-- the ship is there already -/
theorem yw_ml1 (R : yl_R L K V nc tS tL sP lP kd fr hf to mc C mk mf mh mt) (sq : yw_sq t h u cl sc sr ch ts co ro br wc wr gl hs us cs rs) {p0 : Int} {mA : Int → Int} (hmA : ∀ m2, (∀ j, 0 ≤ j → j < 422 → m2 j = mA j) → yw_mk t cl sc sr ch ts s br wc wr gl hs us cs rs 0 p0 m2) (b126 : mA 126 = t) (s0 : 0 ≤ s) (s1 : s < 6) {n : Int} (n0 : 1 ≤ n) (n1 : n ≤ 48) (tin : 0 ≤ t ∧ t ≤ 2147483647) {m1 g S : Int → Int} :
    zh_ok (zf_M_fastest_l0 s n p0 mc mA mk mh mt C mf zi_fu 0 (-2) 0 m1 g S) fun o => o.1 = 0 ∧ ((o.2.1 = -2 ∧ ∀ i : Int, 0 ≤ i → i < 24 → ¬ zb t i.toNat = true) ∨ ∃ i : Int, (0 ≤ i ∧ i < 24 ∧ zb t i.toNat = true) ∧ (∀ j : Int, 0 ≤ j → j < i → ¬ zb t j.toNat = true) ∧ o.2.1 = i) := by
  refine zh_loop (F := fun f i (a : Int × Int × (Int → Int) × (Int → Int) × (Int → Int)) => zf_M_fastest_l0 s n p0 mc mA mk mh mt C mf f a.1 a.2.1 i a.2.2.1 a.2.2.2.1 a.2.2.2.2) (N := 24) (I := fun j a => a.1 = 0 ∧ ((a.2.1 = -2 ∧ ∀ i : Int, 0 ≤ i → i < j → ¬ zb t i.toNat = true) ∨ ∃ i : Int, (0 ≤ i ∧ i < j ∧ zb t i.toNat = true) ∧ (∀ j : Int, 0 ≤ j → j < i → ¬ zb t j.toNat = true) ∧ a.2.1 = i)) (fun f j a j0 j1 ha kk => ?_) 24 0 (0, -2, m1, g, S) zi_fu (by decide) (by decide) (by decide) (by decide) ⟨rfl, .inl ⟨rfl, fun i i0 i1 => by omega⟩⟩
  obtain ⟨a1, a2, a3, a4, a5⟩ := a
  obtain ⟨e1, ha⟩ := ha
  dsimp only at e1 ha
  subst e1
  show zh_ok (zf_M_fastest_l0_b s n p0 mc mA mk mh mt C mf (zf_M_fastest_l0 s n p0 mc mA mk mh mt C mf f) 0 a2 j a3 a4 a5) _
  unfold zf_M_fastest_l0_b
  refine zh_ite (fun hj => ?_) fun hj => zh_ret ⟨rfl, ?_⟩
  · obtain ⟨mB, e2, hB⟩ := ze_again (g0 := mA) (g := a3)
    have hmB := hmA mB hB
    have c126 : mB 126 = t := by rw [hB 126 (by decide) (by decide), b126]
    rw [e2, zl_b, ze_M_isTold (by rw [c126]; exact tin.1) (by rw [c126]; exact tin.2), c126, zl_b, zi_w_id (x := j + 1) (by omega) (by omega)]
    have k2 : ∀ (b2 : Int) (b3 b4 b5 : Int → Int), ((b2 = -2 ∧ ∀ i : Int, 0 ≤ i → i < j + 1 → ¬ zb t i.toNat = true) ∨ ∃ i : Int, (0 ≤ i ∧ i < j + 1 ∧ zb t i.toNat = true) ∧ (∀ j : Int, 0 ≤ j → j < i → ¬ zb t j.toNat = true) ∧ b2 = i) → zh_ok (zf_M_fastest_l0 s n p0 mc mA mk mh mt C mf f 0 b2 (j + 1) b3 b4 b5) _ := fun b2 b3 b4 b5 hh => kk (0, b2, b3, b4, b5) hj ⟨rfl, hh⟩
    refine zh_ite (fun q6 => k2 _ _ _ _ ?_) fun q6 => ?_
    · have hno : ¬ zb t j.toNat = true := fun ht => by
        have : zs_has 24 t j = 1 := by
          unfold zs_has
          rw [if_pos ⟨j0, hj, by rw [zb_tb2 tin.1 tin.2]; exact ht⟩]
        rw [this] at q6
        exact absurd q6 (by decide)
      rcases ha with ⟨x1, x2⟩ | ⟨i, ⟨x1, x2, x3⟩, x4, x5⟩
      · refine .inl ⟨x1, fun i i0 i1 => ?_⟩
        by_cases e : i = j
        · subst e; exact hno
        · exact x2 i i0 (by omega)
      · exact .inr ⟨i, ⟨x1, by omega, x3⟩, x4, x5⟩
    · have hti := yw_hs tin.1 tin.2 q6
      refine zh_bind (yw_comesByE R sq hmB s0 s1 j0 hj hti (by omega) (by omega)) fun r18 h18 => ?_
      have o1 : r18.1 = 0 := by
        rcases h18 with ⟨k, -, o1, -, pl⟩ | ⟨-, pl⟩
        · rcases Nat.eq_zero_or_pos k with e | e
          · rw [o1, e]; rfl
          · exact absurd rfl (pl 0 e)
        · exact absurd rfl (pl 0 (by omega))
      rw [o1, if_neg (by decide), if_neg (by decide), if_pos rfl]
      rcases ha with ⟨rfl, x2⟩ | ⟨i, ⟨x1, x2, x3⟩, x4, rfl⟩
      · rw [if_pos rfl]
        exact k2 _ _ _ _ (.inr ⟨j, ⟨j0, by omega, hti⟩, fun l l0 l1 => x2 l l0 l1, rfl⟩)
      · rw [if_neg (by omega)]
        exact k2 _ _ _ _ (.inr ⟨a2, ⟨x1, by omega, x3⟩, x4, rfl⟩)
  · rcases ha with ⟨x1, x2⟩ | ⟨i, ⟨x1, x2, x3⟩, x4, x5⟩
    · exact .inl ⟨x1, fun i i0 i1 => x2 i i0 (by omega)⟩
    · exact .inr ⟨i, ⟨x1, by omega, x3⟩, x4, x5⟩
theorem yw_fastME (R : yl_R L K V nc tS tL sP lP kd fr hf to mc C mk mf mh mt) (k : yk_sky t h u cl sc sr ch co ro br wc wr m) (z : yk_sea ts gp gl m) (sq : yw_sq t h u cl sc sr ch ts co ro br wc wr gl hs us cs rs) {x y n w : Int} {aA g S : Int → Int} :
    zh_ok (zf_M_fastest s x y n w mc m aA mk g mh mt C S mf) fun o => ((yw_fbad ts t s x y n w ∧ o.1 = -1) ∨ (¬ yw_fbad ts t s x y n w ∧ yw_fa t w (fun i => yw_pos L tS cl sc sr hs us cs rs br gl (gp s) i) (gp s) (24 * y + x) n.toNat o.1)) ∧ ∀ j, 0 ≤ j → j < 422 → o.2.1 j = m j := by
  obtain ⟨⟨ht, k126⟩, -⟩ := id k
  obtain ⟨⟨t1, t2, e127, hsp, -⟩, hb⟩ := id z
  have tin : 0 ≤ t ∧ t ≤ 2147483647 := ⟨ht.1, by have := ht.2; omega⟩
  unfold zf_M_fastest
  rw [ze_M_isShip (by omega) (by omega), zl_b, e127]
  refine zh_ite (fun q => zh_ret ⟨.inl ⟨.inl q, rfl⟩, fun _ _ _ => rfl⟩) fun b1 => ?_
  rw [ze_M_isPlace, zl_b]
  refine zh_ite (fun q => zh_ret ⟨.inl ⟨.inr (.inl q), rfl⟩, fun _ _ _ => rfl⟩) fun b2 => ?_
  rw [ze_M_in, zl_b]
  refine zh_ite (fun q => zh_ret ⟨.inl ⟨.inr (.inr (.inr (.inl q))), rfl⟩, fun _ _ _ => rfl⟩) fun q2 => ?_
  rw [ze_M_in, zl_b]
  refine zh_ite (fun q => zh_ret ⟨.inl ⟨.inr (.inr (.inr (.inr q))), rfl⟩, fun _ _ _ => rfl⟩) fun q3 => ?_
  rw [k126]
  refine zh_ite (fun q => zh_ret ⟨.inl ⟨.inr (.inr (.inl q)), rfl⟩, fun _ _ _ => rfl⟩) fun b3 => ?_
  have hgood : ¬ yw_fbad ts t s x y n w := fun hb => by
    rcases hb with a | a | a | a | a
    · exact b1 a
    · exact b2 a
    · exact b3 a
    · exact q2 a
    · exact q3 a
  obtain ⟨s0, s1, -⟩ := zs_has_ne b1
  obtain ⟨x0, x1, y0, y1⟩ := zs_pl_ne b2
  obtain ⟨n0, n1⟩ := zs_in_ne q2
  obtain ⟨mA, e1, hA⟩ := ze_begins (g0 := m) (g := aA)
  rw [e1, zl_b, zl_b, zi_w_id (x := 120 + s) (by omega) (by omega), zi_w_id (x := 24 * y) (by omega) (by omega), zi_w_id (x := 24 * y + x) (by omega) (by omega)]
  have hmA : ∀ m2, (∀ j, 0 ≤ j → j < 422 → m2 j = mA j) → yw_mk t cl sc sr ch ts s br wc wr gl hs us cs rs 0 (gp s) m2 := fun m2 e => by
    obtain ⟨⟨rfl, rfl, rfl, rfl⟩, -⟩ := sq
    have e2 : ∀ j, 0 ≤ j → j < 422 → m2 j = m j := fun j j0 j1 => (e j j0 j1).trans (hA j j0 j1)
    exact ⟨gp, yk_sky_cg k (fun _ _ _ => rfl) (fun _ _ _ => rfl) (fun _ _ _ => rfl) (fun _ _ _ => rfl) (fun _ _ _ => rfl) e2, yk_sea_cg z (fun _ _ _ => rfl) (fun _ _ _ => rfl) e2, rfl⟩
  have b126 : mA 126 = t := by rw [hA 126 (by decide) (by decide), k126]
  have fin : ∀ m2, ∃ m3, zf_M_again mA m2 = some m3 ∧ ∀ j, 0 ≤ j → j < 422 → m3 j = m j := fun m2 => by
    obtain ⟨m3, e3, h3⟩ := ze_again (g0 := mA) (g := m2)
    exact ⟨m3, e3, fun j j0 j1 => by rw [h3 j j0 j1, hA j j0 j1]⟩
  refine zh_cond (zi_ix_of (by omega) (by omega)) ?_
  rw [hsp s s0 s1]
  refine zh_ite (fun he => ?_) fun hne => ?_
  · rw [← he]
    refine zh_bind (yw_ml1 R sq hmA b126 s0 s1 n0 n1 tin) fun q28 h28 => ?_
    obtain ⟨m3, e3, h3⟩ := fin q28.2.2.1
    obtain ⟨o1, ho⟩ := h28
    have ho : ∃ i : Int, (0 ≤ i ∧ i < 24 ∧ zb t i.toNat = true) ∧ (∀ j : Int, 0 ≤ j → j < i → ¬ zb t j.toNat = true) ∧ q28.2.1 = i := by
      rcases ho with ⟨-, hno⟩ | ho
      · exact absurd ((z24_z ht).mpr fun j hj => by
          cases c : zb t j
          · rfl
          · exact absurd c (hno (j : Int) (by omega) (by omega))) b3
      · exact ho
    obtain ⟨i, ⟨i0, i1, hti⟩, hlow, o2⟩ := ho
    have hfa : ∀ r, r = (if w = 0 then 0 else i) → yw_fa t w (fun i => yw_pos L tS cl sc sr hs us cs rs br gl (gp s) i) (gp s) (gp s) n.toNat r := fun r hr => .inl ⟨rfl, i.toNat, ⟨by omega, hti, fun j hj => by
      cases c : zb t j
      · rfl
      · exact absurd c (hlow (j : Int) (by omega) (by omega))⟩, by rw [hr, Int.toNat_of_nonneg i0]⟩
    rw [e3, zl_b, o1, if_neg (by decide)]
    exact zh_ite (fun cw => zh_ret ⟨.inr ⟨hgood, hfa _ (by rw [if_pos cw])⟩, h3⟩) fun cw => zh_ret ⟨.inr ⟨hgood, hfa _ (by rw [if_neg cw]; exact o2)⟩, h3⟩
  · refine zh_bind (yw_ml0 R sq hmA b126 s0 s1 n0 n1 tin hne) fun q28 h28 => ?_
    obtain ⟨m3, e3, h3⟩ := fin q28.2.2.1
    rw [e3, zl_b]
    rcases h28 with ⟨kk, i, o2, o3, o4⟩ | ⟨o1, o2⟩
    · have : kk ≤ n.toNat := o2.1.2
      rw [o3, if_neg (by omega)]
      exact zh_ite (fun cw => zh_ret ⟨.inr ⟨hgood, .inr ⟨hne, .inl ⟨kk, i, o2, by rw [if_pos cw]⟩⟩⟩, h3⟩) fun cw => zh_ret ⟨.inr ⟨hgood, .inr ⟨hne, .inl ⟨kk, i, o2, by rw [if_neg cw]; exact o4⟩⟩⟩, h3⟩
    · rw [o1, if_pos rfl]
      exact zh_ret ⟨.inr ⟨hgood, .inr ⟨hne, .inr ⟨o2, rfl⟩⟩⟩, h3⟩
theorem yo_fastest (R : yl_R L K V nc tS tL sP lP kd fr hf to mc C mk mf mh mt) (k : yk_sky t h u cl sc sr ch co ro br wc wr m) (z : yk_sea ts gp gl m) {s x y n w : Int} {f2 f4 f6 f8 f10 f12 f14 f18 f19 f20 f22 f24 f26 f27 : Int} {g1 g3 g5 g7 g9 g10 g12 g13 g18 aA g S : Int → Int} :
    ∃ o1 o2, zf_X_fastest s x y n w ts t f2 h f4 u f6 cl f8 sc f10 sr f12 ch f14 f18 f19 f20 tS f22 nc f24 sP f26 f27 co g1 ro g3 br g5 wc g7 wr g9 g10 gp g12 g13 kd hf to K g18 V gl = some o1 ∧ zf_M_fastest s x y n w mc m aA mk g mh mt C S mf = some o2 ∧ o1.1 = o2.1 ∧ ∀ j, 0 ≤ j → j < 422 → o2.2.1 j = m j := by
  have k2 : yk_sky t h u cl sc sr ch (zv_cpy co g1 24) (zv_cpy ro g3 24) (zv_cpy br g5 24) (zv_cpy wc g7 24) (zv_cpy wr g9 24) m := yk_sky_cg k (fun j j1 j2 => zv_cpy_in j2) (fun j j1 j2 => zv_cpy_in j2) (fun j j1 j2 => zv_cpy_in j2) (fun j j1 j2 => zv_cpy_in j2) (fun j j1 j2 => zv_cpy_in j2) (fun _ _ _ => rfl)
  obtain ⟨hs, us, cs, rs, sq⟩ := yw_sq_ex ⟨gp, m, k2, z⟩
  obtain ⟨o1, e1, h1⟩ := yw_fastXE (s := s) (x := x) (y := y) (n := n) (w := w) (f2 := f2) (f4 := f4) (f6 := f6) (f8 := f8) (f10 := f10) (f12 := f12) (f14 := f14) (f18 := f18) (f19 := f19) (f20 := f20) (f22 := f22) (f24 := f24) (f26 := f26) (f27 := f27) (g10 := g10) (g12 := g12) (g13 := g13) (g18 := g18) R k z sq
  obtain ⟨o2, e2, h2, h3⟩ := yw_fastME (s := s) (x := x) (y := y) (n := n) (w := w) (aA := aA) (g := g) (S := S) R k2 z sq
  refine ⟨o1, o2, e1, e2, ?_, h3⟩
  rcases h1 with ⟨a1, a2⟩ | ⟨a1, a2⟩
  · rcases h2 with ⟨-, b2⟩ | ⟨b1, -⟩
    · rw [a2, b2]
    · exact absurd a1 b1
  · rcases h2 with ⟨b1, -⟩ | ⟨-, b2⟩
    · exact absurd b1 a1
    · exact yw_fa_1 a2 b2
end YLZ
end
section
/-! How many ways: counting maps of names to stars, in any order of the names. -/
def yc_sum (f : Nat → Nat) : Nat → Nat
  | 0 => 0
  | k + 1 => yc_sum f k + f k
theorem yc_sum_cg {f g : Nat → Nat} : ∀ {k : Nat}, (∀ i, i < k → f i = g i) → yc_sum f k = yc_sum g k
  | 0, _ => rfl
  | k + 1, h => by
    show yc_sum f k + f k = yc_sum g k + g k
    rw [yc_sum_cg fun i hi => h i (by omega), h k (by omega)]
theorem yc_sum_add {f g : Nat → Nat} : ∀ k : Nat, yc_sum (fun i => f i + g i) k = yc_sum f k + yc_sum g k
  | 0 => rfl
  | k + 1 => by
    show yc_sum (fun i => f i + g i) k + (f k + g k) = yc_sum f k + f k + (yc_sum g k + g k)
    rw [yc_sum_add k]; omega
theorem yc_sum_0 : ∀ k : Nat, yc_sum (fun _ => 0) k = 0
  | 0 => rfl
  | k + 1 => by
    show yc_sum (fun _ => 0) k + 0 = 0
    rw [yc_sum_0 k]
theorem yc_sum_swap {f : Nat → Nat → Nat} {m : Nat} : ∀ k : Nat, yc_sum (fun i => yc_sum (fun j => f i j) m) k = yc_sum (fun j => yc_sum (fun i => f i j) k) m
  | 0 => (yc_sum_0 m).symm
  | k + 1 => by
    show yc_sum (fun i => yc_sum (fun j => f i j) m) k + yc_sum (fun j => f k j) m = yc_sum (fun j => yc_sum (fun i => f i j) k + f k j) m
    rw [yc_sum_swap k, yc_sum_add m]
theorem yc_sum_if {b : Bool} {f : Nat → Nat} {k : Nat} : (if b = true then yc_sum f k else 0) = yc_sum (fun i => if b = true then f i else 0) k := by
  cases b with
  | true => rfl
  | false => exact (yc_sum_0 k).symm
/-- what is left when a name is a star -/
def yc_nw (nr J row : Nat → Nat → Bool) (a i : Nat) : Nat → Nat → Bool := fun b j => row b j && (!(Nat.beq j i) && (!(nr a b) || J i j))
def yc (nr J : Nat → Nat → Bool) : List Nat → (Nat → Nat → Bool) → Nat
  | [], _ => 1
  | a :: ns, row => yc_sum (fun i => if row a i = true then yc nr J ns (yc_nw nr J row a i) else 0) 24
section YCNT
variable {nr J row row2 : Nat → Nat → Bool}
theorem yc_cg : ∀ {ns : List Nat} {row row2 : Nat → Nat → Bool}, (∀ b ∈ ns, ∀ j, j < 24 → row b j = row2 b j) → yc nr J ns row = yc nr J ns row2
  | [], _, _, _ => rfl
  | a :: ns, row, row2, h => by
    refine yc_sum_cg fun i hi => ?_
    rw [h a List.mem_cons_self i hi]
    by_cases c : row2 a i = true
    · rw [if_pos c, if_pos c]
      refine yc_cg fun b hb j hj => ?_
      unfold yc_nw
      rw [h b (List.mem_cons_of_mem _ hb) j hj]
    · rw [if_neg c, if_neg c]
theorem yc_2 {a b : Nat} {ns : List Nat} : yc nr J (a :: b :: ns) row = yc_sum (fun i => yc_sum (fun j => if (row a i && yc_nw nr J row a i b j) = true then yc nr J ns (yc_nw nr J (yc_nw nr J row a i) b j) else 0) 24) 24 := by
  refine yc_sum_cg fun i hi => ?_
  show (if row a i = true then yc_sum (fun j => if yc_nw nr J row a i b j = true then yc nr J ns (yc_nw nr J (yc_nw nr J row a i) b j) else 0) 24 else 0) = _
  rw [yc_sum_if]
  refine yc_sum_cg fun j hj => ?_
  cases row a i <;> rfl
theorem yc_swap (hn : ∀ a b, nr a b = nr b a) (hJ : ∀ i j, J i j = J j i) {a b : Nat} {ns : List Nat} : yc nr J (a :: b :: ns) row = yc nr J (b :: a :: ns) row := by
  rw [yc_2, yc_2, yc_sum_swap]
  refine yc_sum_cg fun j hj => yc_sum_cg fun i hi => ?_
  have e : (row a i && yc_nw nr J row a i b j) = (row b j && yc_nw nr J row b j a i) := by
    unfold yc_nw
    rw [hn b a, hJ j i, show Nat.beq j i = Nat.beq i j from by rw [Bool.eq_iff_iff, Nat.beq_eq, Nat.beq_eq]; exact eq_comm]
    cases row a i <;> cases row b j <;> rfl
  rw [e]
  by_cases c : (row b j && yc_nw nr J row b j a i) = true
  · rw [if_pos c, if_pos c]
    refine yc_cg fun d hd k hk => ?_
    unfold yc_nw
    cases row d k <;> cases Nat.beq k i <;> cases Nat.beq k j <;> cases nr a d <;> cases nr b d <;> cases J i k <;> cases J j k <;> rfl
  · rw [if_neg c, if_neg c]
theorem yc_front (hn : ∀ a b, nr a b = nr b a) (hJ : ∀ i j, J i j = J j i) {a : Nat} : ∀ {ns : List Nat} {row : Nat → Nat → Bool}, a ∈ ns → yc nr J ns row = yc nr J (a :: ns.erase a) row
  | b :: ns, row, h => by
    by_cases e : b = a
    · subst e; rw [List.erase_cons_head]
    · have hm : a ∈ ns := by
        rcases List.mem_cons.mp h with h | h
        · exact absurd h.symm e
        · exact h
      rw [List.erase_cons_tail (by simpa using e), ← yc_swap hn hJ]
      refine yc_sum_cg fun i hi => ?_
      rw [yc_front hn hJ hm]
/-- stars given anew -/
theorem yc_ren {π : Nat → Nat} (hp : ∀ i, i < 24 → π i < 24) (hpp : ∀ i, π (π i) = i) (hJ : ∀ i j, i < 24 → j < 24 → J (π i) (π j) = J i j) (hs : ∀ f : Nat → Nat, yc_sum (fun i => f (π i)) 24 = yc_sum f 24) : ∀ {ns : List Nat} {row : Nat → Nat → Bool}, yc nr J ns (fun b j => row b (π j)) = yc nr J ns row
  | [], _ => rfl
  | a :: ns, row => by
    show yc_sum (fun i => if row a (π i) = true then yc nr J ns (yc_nw nr J (fun b j => row b (π j)) a i) else 0) 24 = yc_sum (fun i => if row a i = true then yc nr J ns (yc_nw nr J row a i) else 0) 24
    rw [← hs (fun i => if row a i = true then yc nr J ns (yc_nw nr J row a i) else 0)]
    refine yc_sum_cg fun i hi => ?_
    show _ = if row a (π i) = true then yc nr J ns (yc_nw nr J row a (π i)) else 0
    by_cases c : row a (π i) = true
    · rw [if_pos c, if_pos c, ← yc_ren hp hpp hJ hs (row := yc_nw nr J row a (π i))]
      refine yc_cg fun b hb j hj => ?_
      unfold yc_nw
      rw [hJ i j hi hj]
      have : Nat.beq (π j) (π i) = Nat.beq j i := by
        rw [Bool.eq_iff_iff, Nat.beq_eq, Nat.beq_eq]
        exact ⟨fun e => by rw [← hpp j, e, hpp], fun e => by rw [e]⟩
      rw [this]
    · rw [if_neg c, if_neg c]
end YCNT
theorem yc_sum_up {f : Nat → Nat} {i v : Nat} : ∀ {n : Nat}, i < n → yc_sum (fun j => if j = i then v else f j) n + f i = yc_sum f n + v
  | n + 1, h => by
    show yc_sum (fun j => if j = i then v else f j) n + (if n = i then v else f n) + f i = yc_sum f n + f n + v
    by_cases e : n = i
    · subst e
      rw [if_pos rfl, yc_sum_cg (f := fun j => if j = n then v else f j) (g := f) fun j hj => if_neg (by omega)]
      omega
    · have := yc_sum_up (f := f) (v := v) (show i < n by omega)
      rw [if_neg e]
      omega
def yc_tr (i k j : Nat) : Nat := if j = i then k else if j = k then i else j
theorem yc_tr_tr {i k j : Nat} : yc_tr i k (yc_tr i k j) = j := by
  unfold yc_tr
  (repeat' split) <;> omega
theorem yc_tr_lt {i k j n : Nat} (hi : i < n) (hk : k < n) (hj : j < n) : yc_tr i k j < n := by
  unfold yc_tr
  (repeat' split) <;> omega
theorem yc_sum_tr {f : Nat → Nat} {i k n : Nat} (hi : i < n) (hk : k < n) : yc_sum (fun j => f (yc_tr i k j)) n = yc_sum f n := by
  by_cases e : i = k
  · subst e
    refine yc_sum_cg fun j _ => ?_
    have : yc_tr i i j = j := by unfold yc_tr; (repeat' split) <;> omega
    rw [this]
  · have h1 := yc_sum_up (f := f) (v := f k) hi
    have h2 := yc_sum_up (f := fun j => if j = i then f k else f j) (v := f i) hk
    have e2 : (if k = i then f k else f k) = f k := by split <;> rfl
    have h3 : yc_sum (fun j => f (yc_tr i k j)) n = yc_sum (fun j => if j = k then f i else if j = i then f k else f j) n := yc_sum_cg fun j _ => by
      unfold yc_tr
      by_cases a : j = i
      · rw [if_pos a, if_neg (show ¬ j = k by omega), if_pos a]
      · by_cases b : j = k
        · rw [if_neg a, if_pos b, if_pos b]
        · rw [if_neg a, if_neg b, if_neg b, if_neg a]
    rw [h3]
    have h2 : yc_sum (fun j => if j = k then f i else if j = i then f k else f j) n + (if k = i then f k else f k) = yc_sum (fun j => if j = i then f k else f j) n + f i := h2
    rw [e2] at h2
    omega
/-- twins: the same lines but to each other -/
def yc_tw (J : Nat → Nat → Bool) (i k : Nat) : Prop := ∀ x, x < 24 → x ≠ i → x ≠ k → J i x = J k x
theorem yc_tw_J {J : Nat → Nat → Bool} (hJ : ∀ i j, J i j = J j i) (hx : ∀ i, J i i = false) {i k : Nat} (h : yc_tw J i k) : ∀ x y, x < 24 → y < 24 → J (yc_tr i k x) (yc_tr i k y) = J x y := by
  intro x y hx0 hy0
  unfold yc_tr
  by_cases a : x = i
  · rw [if_pos a]
    by_cases b : y = i
    · rw [if_pos b, a, b, hx, hx]
    · rw [if_neg b]
      by_cases c : y = k
      · rw [if_pos c, a, c, hJ]
      · rw [if_neg c, a]; exact (h y hy0 b c).symm
  · rw [if_neg a]
    by_cases a2 : x = k
    · rw [if_pos a2]
      by_cases b : y = i
      · rw [if_pos b, a2, b, hJ]
      · rw [if_neg b]
        by_cases c : y = k
        · rw [if_pos c, a2, c, hx, hx]
        · rw [if_neg c, a2]; exact h y hy0 b c
    · rw [if_neg a2]
      by_cases b : y = i
      · rw [if_pos b, b, hJ x k, hJ x i]; exact (h x hx0 a a2).symm
      · rw [if_neg b]
        by_cases c : y = k
        · rw [if_pos c, c, hJ x i, hJ x k]; exact h x hx0 a a2
        · rw [if_neg c]
theorem yc_twin {nr J row : Nat → Nat → Bool} (hJ : ∀ i j, J i j = J j i) (hx : ∀ i, J i i = false) {i k a : Nat} (hi : i < 24) (hk : k < 24) (h : yc_tw J i k) {ns : List Nat} (hr : ∀ b ∈ ns, row b i = row b k) : yc nr J ns (yc_nw nr J row a k) = yc nr J ns (yc_nw nr J row a i) := by
  rw [← yc_ren (π := yc_tr i k) (fun j hj => yc_tr_lt hi hk hj) (fun j => yc_tr_tr) (yc_tw_J hJ hx h) (fun f => yc_sum_tr hi hk) (row := yc_nw nr J row a k)]
  refine yc_cg fun b hb j hj => ?_
  have e1 : row b (yc_tr i k j) = row b j := by
    unfold yc_tr
    by_cases c : j = i
    · rw [if_pos c, c, hr b hb]
    · rw [if_neg c]
      by_cases d : j = k
      · rw [if_pos d, d, hr b hb]
      · rw [if_neg d]
  have e2 : Nat.beq (yc_tr i k j) k = Nat.beq j i := by
    rw [Bool.eq_iff_iff, Nat.beq_eq, Nat.beq_eq]
    unfold yc_tr
    (repeat' split) <;> omega
  have e3 : J k (yc_tr i k j) = J i j := by
    have := yc_tw_J hJ hx h i j hi hj
    rw [← this]
    unfold yc_tr
    rw [if_pos rfl]
  unfold yc_nw
  rw [e1, e2, e3]
end
section
/-! Maps of names to stars: when there is one, what may be left out, how many stars it wants. -/
def yc_w (nr J row : Nat → Nat → Bool) (ns : List Nat) (S : Nat → Nat) : Prop :=
  (∀ a ∈ ns, S a < 24 ∧ row a (S a) = true) ∧ ∀ a ∈ ns, ∀ b ∈ ns, a ≠ b → S a ≠ S b ∧ (nr a b = true → J (S a) (S b) = true)
theorem yc_nw_t {nr J row : Nat → Nat → Bool} {a i b j : Nat} : yc_nw nr J row a i b j = true ↔ row b j = true ∧ j ≠ i ∧ (nr a b = true → J i j = true) := by
  unfold yc_nw
  have e : (!(Nat.beq j i)) = true ↔ j ≠ i := by
    constructor
    · intro h w
      subst w
      rw [Nat.beq_refl] at h
      exact absurd h (by decide)
    · intro h
      rw [Bool.not_eq_true', Bool.eq_false_iff]
      exact fun w => h (Nat.eq_of_beq_eq_true w)
  rw [Bool.and_eq_true, Bool.and_eq_true, e]
  cases nr a b <;> cases J i j <;> simp
theorem yc_sum_pos {f : Nat → Nat} {i : Nat} : ∀ {n : Nat}, i < n → 0 < f i → 0 < yc_sum f n
  | n + 1, h, h2 => by
    show 0 < yc_sum f n + f n
    by_cases e : i = n
    · subst e; omega
    · have := yc_sum_pos (show i < n by omega) h2
      omega
theorem yc_sum_ex {f : Nat → Nat} : ∀ {n : Nat}, 0 < yc_sum f n → ∃ i, i < n ∧ 0 < f i
  | 0, h => absurd h (Nat.lt_irrefl 0)
  | n + 1, h => by
    have h : 0 < yc_sum f n + f n := h
    by_cases e : 0 < f n
    · exact ⟨n, Nat.lt_succ_self n, e⟩
    · obtain ⟨i, i1, i2⟩ := yc_sum_ex (f := f) (n := n) (by omega)
      exact ⟨i, by omega, i2⟩
theorem yc_w_cg {nr J row : Nat → Nat → Bool} {ns : List Nat} {S S2 : Nat → Nat} (e : ∀ b ∈ ns, S b = S2 b) (h : yc_w nr J row ns S) : yc_w nr J row ns S2 := by
  refine ⟨fun a ha => ?_, fun a ha b hb hab => ?_⟩
  · rw [← e a ha]; exact h.1 a ha
  · rw [← e a ha, ← e b hb]; exact h.2 a ha b hb hab
theorem yc_w_row {nr J row row2 : Nat → Nat → Bool} {ns : List Nat} {S : Nat → Nat} (h : yc_w nr J row ns S) (e : ∀ b ∈ ns, row2 b (S b) = true) : yc_w nr J row2 ns S :=
  ⟨fun a ha => ⟨(h.1 a ha).1, e a ha⟩, h.2⟩
theorem yc_w_cons {nr J row : Nat → Nat → Bool} (hn : ∀ a b, nr a b = nr b a) (hJ : ∀ i j, J i j = J j i) {a : Nat} {ns : List Nat} {S : Nat → Nat} (ha : a ∉ ns) : yc_w nr J row (a :: ns) S ↔ S a < 24 ∧ row a (S a) = true ∧ yc_w nr J (yc_nw nr J row a (S a)) ns S := by
  constructor
  · intro h
    have h0 := h.1 a List.mem_cons_self
    refine ⟨h0.1, h0.2, fun b hb => ?_, fun b hb c hc hbc => h.2 b (List.mem_cons_of_mem _ hb) c (List.mem_cons_of_mem _ hc) hbc⟩
    have hab : a ≠ b := fun e => ha (by rw [e]; exact hb)
    have h1 := h.1 b (List.mem_cons_of_mem _ hb)
    have h2 := h.2 a List.mem_cons_self b (List.mem_cons_of_mem _ hb) hab
    exact ⟨h1.1, yc_nw_t.mpr ⟨h1.2, fun e => h2.1 e.symm, h2.2⟩⟩
  · rintro ⟨h1, h2, h3, h4⟩
    have hx : ∀ b ∈ ns, S a ≠ S b ∧ (nr a b = true → J (S a) (S b) = true) := fun b hb => by
      have q := yc_nw_t.mp (h3 b hb).2
      exact ⟨fun e => q.2.1 e.symm, q.2.2⟩
    refine ⟨fun b hb => ?_, fun b hb c hc hbc => ?_⟩
    · rcases List.mem_cons.mp hb with e | hb
      · rw [e]; exact ⟨h1, h2⟩
      · exact ⟨(h3 b hb).1, (yc_nw_t.mp (h3 b hb).2).1⟩
    · rcases List.mem_cons.mp hb with e | hb
      · rcases List.mem_cons.mp hc with e2 | hc
        · exact absurd (e.trans e2.symm) hbc
        · rw [e]; exact hx c hc
      · rcases List.mem_cons.mp hc with e2 | hc
        · rw [e2]
          have q := hx b hb
          exact ⟨fun w => q.1 w.symm, fun w => by rw [hJ]; exact q.2 (by rw [hn]; exact w)⟩
        · exact h4 b hb c hc hbc
theorem yc_upd (S : Nat → Nat) (a i : Nat) : ∃ S2 : Nat → Nat, S2 a = i ∧ ∀ b, b ≠ a → S2 b = S b := ⟨fun b => if b = a then i else S b, if_pos rfl, fun b hb => if_neg hb⟩
theorem yc_pos1 {nr J : Nat → Nat → Bool} (hn : ∀ a b, nr a b = nr b a) (hJ : ∀ i j, J i j = J j i) : ∀ {ns : List Nat} {row : Nat → Nat → Bool} {S : Nat → Nat}, ns.Nodup → yc_w nr J row ns S → 0 < yc nr J ns row
  | [], _, _, _, _ => Nat.one_pos
  | a :: ns, row, S, hd, h => by
    obtain ⟨d1, d2⟩ := List.nodup_cons.mp hd
    obtain ⟨h1, h2, h3⟩ := (yc_w_cons hn hJ d1).mp h
    show 0 < yc_sum (fun i => if row a i = true then yc nr J ns (yc_nw nr J row a i) else 0) 24
    refine yc_sum_pos h1 ?_
    show 0 < if row a (S a) = true then yc nr J ns (yc_nw nr J row a (S a)) else 0
    rw [if_pos h2]
    exact yc_pos1 hn hJ d2 h3
theorem yc_pos2 {nr J : Nat → Nat → Bool} (hn : ∀ a b, nr a b = nr b a) (hJ : ∀ i j, J i j = J j i) : ∀ {ns : List Nat} {row : Nat → Nat → Bool}, ns.Nodup → 0 < yc nr J ns row → ∃ S, yc_w nr J row ns S
  | [], _, _, _ => ⟨fun _ => 0, fun a ha => (by cases ha), fun a ha => (by cases ha)⟩
  | a :: ns, row, hd, h => by
    obtain ⟨d1, d2⟩ := List.nodup_cons.mp hd
    obtain ⟨i, i1, i2⟩ := yc_sum_ex (f := fun i => if row a i = true then yc nr J ns (yc_nw nr J row a i) else 0) h
    have i2 : 0 < if row a i = true then yc nr J ns (yc_nw nr J row a i) else 0 := i2
    by_cases c : row a i = true
    · rw [if_pos c] at i2
      obtain ⟨S, hS⟩ := yc_pos2 hn hJ d2 i2
      obtain ⟨S2, ea, eb⟩ := yc_upd S a i
      refine ⟨S2, (yc_w_cons hn hJ d1).mpr ?_⟩
      rw [ea]
      exact ⟨i1, c, yc_w_cg (fun b hb => (eb b fun e => d1 (by rw [← e]; exact hb)).symm) hS⟩
    · rw [if_neg c] at i2
      exact absurd i2 (Nat.lt_irrefl 0)
/-- what no way has may be left out -/
theorem yc_prune {nr J : Nat → Nat → Bool} (hn : ∀ a b, nr a b = nr b a) (hJ : ∀ i j, J i j = J j i) : ∀ {ns : List Nat} {row row2 : Nat → Nat → Bool}, ns.Nodup → (∀ b ∈ ns, ∀ j, j < 24 → row2 b j = true → row b j = true) → (∀ S, yc_w nr J row ns S → ∀ b ∈ ns, row2 b (S b) = true) → yc nr J ns row2 = yc nr J ns row
  | [], _, _, _, _, _ => rfl
  | a :: ns, row, row2, hd, h1, h2 => by
    obtain ⟨d1, d2⟩ := List.nodup_cons.mp hd
    have up : ∀ i, i < 24 → row a i = true → ∀ S, yc_w nr J (yc_nw nr J row a i) ns S → row2 a i = true ∧ ∀ b ∈ ns, row2 b (S b) = true := fun i i1 hi S hS => by
      obtain ⟨S2, ea, eb⟩ := yc_upd S a i
      have hw : yc_w nr J row (a :: ns) S2 := (yc_w_cons hn hJ d1).mpr (by
        rw [ea]
        exact ⟨i1, hi, yc_w_cg (fun b hb => (eb b fun e => d1 (by rw [← e]; exact hb)).symm) hS⟩)
      refine ⟨?_, fun b hb => ?_⟩
      · have := h2 _ hw a List.mem_cons_self
        rwa [ea] at this
      · have := h2 _ hw b (List.mem_cons_of_mem _ hb)
        rwa [eb b fun e => d1 (by rw [← e]; exact hb)] at this
    refine yc_sum_cg fun i hi => ?_
    by_cases c2 : row2 a i = true
    · have c := h1 a List.mem_cons_self i hi c2
      rw [if_pos c2, if_pos c]
      refine yc_prune hn hJ d2 (fun b hb j hj hr => ?_) fun S hS b hb => ?_
      · have q := yc_nw_t.mp hr
        exact yc_nw_t.mpr ⟨h1 b (List.mem_cons_of_mem _ hb) j hj q.1, q.2⟩
      · have q := yc_nw_t.mp (hS.1 b hb).2
        exact yc_nw_t.mpr ⟨(up i hi c S hS).2 b hb, q.2⟩
    · rw [if_neg c2]
      by_cases c : row a i = true
      · rw [if_pos c]
        by_cases z : 0 < yc nr J ns (yc_nw nr J row a i)
        · obtain ⟨S, hS⟩ := yc_pos2 hn hJ d2 z
          exact absurd (up i hi c S hS).1 c2
        · omega
      · rw [if_neg c]
/-- the order of the names is for nothing -/
theorem yc_set {nr J : Nat → Nat → Bool} (hn : ∀ a b, nr a b = nr b a) (hJ : ∀ i j, J i j = J j i) : ∀ {l l2 : List Nat} {row : Nat → Nat → Bool}, l.Nodup → l2.Nodup → (∀ a, a ∈ l ↔ a ∈ l2) → yc nr J l row = yc nr J l2 row
  | [], l2, _, _, _, h => by
    cases l2 with
    | nil => rfl
    | cons b l2 => exact absurd ((h b).mpr List.mem_cons_self) (by intro w; cases w)
  | a :: l, l2, row, d1, d2, h => by
    obtain ⟨e1, e2⟩ := List.nodup_cons.mp d1
    rw [yc_front hn hJ ((h a).mp List.mem_cons_self)]
    refine yc_sum_cg fun i hi => ?_
    rw [yc_set hn hJ (l2 := l2.erase a) e2 (d2.erase a) fun b => ?_]
    rw [d2.mem_erase_iff]
    constructor
    · intro hb
      exact ⟨fun e => e1 (by rw [← e]; exact hb), (h b).mp (List.mem_cons_of_mem _ hb)⟩
    · rintro ⟨n1, hb⟩
      rcases List.mem_cons.mp ((h b).mpr hb) with e | hb
      · exact absurd e n1
      · exact hb
/-- names from a set -/
def yc_ls (f : Nat → Bool) : Nat → List Nat
  | 0 => []
  | n + 1 => cond (f n) (n :: yc_ls f n) (yc_ls f n)
theorem yc_ls_mem {f : Nat → Bool} {a : Nat} : ∀ {n : Nat}, a ∈ yc_ls f n ↔ a < n ∧ f a = true
  | 0 => ⟨fun h => (by cases h), fun h => absurd h.1 (Nat.not_lt_zero a)⟩
  | n + 1 => by
    have ih := yc_ls_mem (f := f) (a := a) (n := n)
    show a ∈ cond (f n) (n :: yc_ls f n) (yc_ls f n) ↔ _
    cases e : f n with
    | true =>
      show a ∈ n :: yc_ls f n ↔ _
      rw [List.mem_cons, ih]
      constructor
      · rintro (h | h)
        · subst h; exact ⟨Nat.lt_succ_self a, e⟩
        · exact ⟨by omega, h.2⟩
      · rintro ⟨h1, h2⟩
        by_cases w : a = n
        · exact .inl w
        · exact .inr ⟨by omega, h2⟩
    | false =>
      show a ∈ yc_ls f n ↔ _
      rw [ih]
      constructor
      · rintro ⟨h1, h2⟩; exact ⟨by omega, h2⟩
      · rintro ⟨h1, h2⟩
        refine ⟨?_, h2⟩
        by_cases w : a = n
        · subst w; rw [h2] at e; cases e
        · omega
theorem yc_ls_nd {f : Nat → Bool} : ∀ {n : Nat}, (yc_ls f n).Nodup
  | 0 => List.nodup_nil
  | n + 1 => by
    show (cond (f n) (n :: yc_ls f n) (yc_ls f n)).Nodup
    cases f n with
    | true => exact List.nodup_cons.mpr ⟨fun h => absurd (yc_ls_mem.mp h).1 (Nat.lt_irrefl n), yc_ls_nd⟩
    | false => exact yc_ls_nd
theorem yc_ls_len {f : Nat → Bool} : ∀ {n : Nat}, ((yc_ls f n).length : Int) = yn_n f n
  | 0 => rfl
  | n + 1 => by
    show ((cond (f n) (n :: yc_ls f n) (yc_ls f n)).length : Int) = yn_n f n + (if f n = true then 1 else 0)
    have ih := yc_ls_len (f := f) (n := n)
    cases f n with
    | true =>
      show (((yc_ls f n).length + 1 : Nat) : Int) = yn_n f n + 1
      omega
    | false =>
      show ((yc_ls f n).length : Int) = yn_n f n + 0
      omega
/-- as many stars as names -/
theorem yc_pig {S : Nat → Nat} : ∀ {ns : List Nat} {z : Nat → Bool}, ns.Nodup → (∀ a ∈ ns, S a < 24 ∧ z (S a) = true) → (∀ a ∈ ns, ∀ b ∈ ns, a ≠ b → S a ≠ S b) → (ns.length : Int) ≤ yn_n z 24
  | [], z, _, _, _ => (yn_in 24).1
  | a :: ns, z, hd, h1, h2 => by
    obtain ⟨d1, d2⟩ := List.nodup_cons.mp hd
    have ha := h1 a List.mem_cons_self
    have hz : yn_n z 24 = yn_n (fun j => z j && !Nat.beq j (S a)) 24 + 1 := yn_add (k := S a) (by
      show (z (S a) && !Nat.beq (S a) (S a)) = false
      rw [Nat.beq_refl, Bool.not_true, Bool.and_false]) ha.2 24 ha.1 fun j _ hj => by
      show (z j && !Nat.beq j (S a)) = z j
      have : Nat.beq j (S a) = false := Bool.eq_false_iff.mpr fun w => hj (Nat.eq_of_beq_eq_true w)
      rw [this, Bool.not_false, Bool.and_true]
    have ih := yc_pig (S := S) (z := fun j => z j && !Nat.beq j (S a)) d2 (fun b hb => by
      have hb1 := h1 b (List.mem_cons_of_mem _ hb)
      refine ⟨hb1.1, ?_⟩
      show (z (S b) && !Nat.beq (S b) (S a)) = true
      have : Nat.beq (S b) (S a) = false := Bool.eq_false_iff.mpr fun w => h2 a List.mem_cons_self b (List.mem_cons_of_mem _ hb) (fun e => d1 (by rw [e]; exact hb)) (Nat.eq_of_beq_eq_true w).symm
      rw [this, hb1.2]; rfl) fun b hb c hc => h2 b (List.mem_cons_of_mem _ hb) c (List.mem_cons_of_mem _ hc)
    rw [hz, List.length_cons]
    omega
/-- more names than stars: no way -/
theorem yc_few {nr J : Nat → Nat → Bool} (hn : ∀ a b, nr a b = nr b a) (hJ : ∀ i j, J i j = J j i) {ns : List Nat} {row : Nat → Nat → Bool} {z : Nat → Bool} (hd : ns.Nodup) (hz : ∀ b ∈ ns, ∀ j, row b j = true → z j = true) (h : yn_n z 24 < ns.length) : yc nr J ns row = 0 := by
  by_cases c : 0 < yc nr J ns row
  · obtain ⟨S, h1, h2⟩ := yc_pos2 hn hJ hd c
    have := yc_pig (S := S) (z := z) hd (fun a ha => ⟨(h1 a ha).1, hz a ha _ (h1 a ha).2⟩) fun a ha b hb hab => (h2 a ha b hb hab).1
    omega
  · omega
/-- a star of a way has as many lines as its name -/
theorem yc_legs {nr J row : Nat → Nat → Bool} {ns : List Nat} {S : Nat → Nat} {z : Nat → Bool} (hz : ∀ b ∈ ns, ∀ j, row b j = true → z j = true) (h : yc_w nr J row ns S) {a : Nat} (ha : a ∈ ns) {f : Nat → Bool} {n : Nat} (hf : ∀ b, b < n → f b = true → b ∈ ns ∧ b ≠ a ∧ nr a b = true) : yn_n f n ≤ yn_n (fun j => J (S a) j && z j) 24 := by
  rw [← yc_ls_len]
  refine yc_pig (S := S) yc_ls_nd (fun b hb => ?_) fun b hb c hc hbc => ?_
  · obtain ⟨b1, b2⟩ := yc_ls_mem.mp hb
    obtain ⟨c1, c2, c3⟩ := hf b b1 b2
    refine ⟨(h.1 b c1).1, ?_⟩
    show (J (S a) (S b) && z (S b)) = true
    rw [(h.2 a ha b c1 fun e => c2 e.symm).2 c3, hz b c1 _ (h.1 b c1).2]; rfl
  · obtain ⟨b1, b2⟩ := yc_ls_mem.mp hb
    obtain ⟨c1, c2⟩ := yc_ls_mem.mp hc
    exact (h.2 b (hf b b1 b2).1 c (hf c c1 c2).1 hbc).1
end
section
/-! The matcher's small functions: what they answer, bit by bit. -/
def ym_nw (nr J : Int → Int) (a i v b : Int) : Int := if zb (nr a) b.toNat = true then zi_and (zi_and v (zi_xor (zi_shl 1 i) (-1))) (J i) else zi_and v (zi_xor (zi_shl 1 i) (-1))
theorem ym_narrow {x1 x2 a i : Int} {G nr J : Int → Int} (h1 : 0 ≤ x1) (h2 : x1 < 8) (a0 : 0 ≤ a) (a1 : a < 8) (i0 : 0 ≤ i) (i1 : i < 24) :
    zh_ok (zf_Matcher_narrow x1 x2 a i G nr J) fun o => (∀ q, q < 8 * x1 + 8 → o.2 q = G q) ∧ ((o.1 = 1 ∧ ∀ b : Int, 0 ≤ b → b < 8 → zb x2 b.toNat = true → o.2 (8 * x1 + 8 + b) = ym_nw nr J a i (G (8 * x1 + b)) b) ∨ (o.1 = 0 ∧ ∃ b : Int, 0 ≤ b ∧ b < 8 ∧ zb x2 b.toNat = true ∧ ym_nw nr J a i (G (8 * x1 + b)) b = 0)) := by
  unfold zf_Matcher_narrow
  rw [zi_w_id (x := x1 * 8) (by omega) (by omega), zi_w_id (x := x1 * 8 + 8) (by omega) (by omega), show x1 * 8 = 8 * x1 from Int.mul_comm _ _]
  obtain ⟨o, eo⟩ : ∃ o, o = 8 * x1 := ⟨_, rfl⟩
  rw [← eo]
  have o0 : 0 ≤ o := by omega
  have o1 : o ≤ 56 := by omega
  refine zh_sum (Q := fun q => match q with
    | .inl g => (∀ q, q < o + 8 → g q = G q) ∧ ∀ b : Int, 0 ≤ b → b < 8 → zb x2 b.toNat = true → g (o + 8 + b) = ym_nw nr J a i (G (o + b)) b
    | .inr w => w.1 = 0 ∧ (∀ q, q < o + 8 → w.2 q = G q) ∧ ∃ b : Int, 0 ≤ b ∧ b < 8 ∧ zb x2 b.toNat = true ∧ ym_nw nr J a i (G (o + b)) b = 0) (zh_loop (F := fun n j (g : Int → Int) => zf_Matcher_narrow_l0 x2 a i o (o + 8) nr J n j g) (N := 8) (I := fun j g => (∀ q, q < o + 8 → g q = G q) ∧ ∀ b : Int, 0 ≤ b → b < j → zb x2 b.toNat = true → g (o + 8 + b) = ym_nw nr J a i (G (o + b)) b) (fun n j g j0 j1 hI k => ?_) 8 0 G zi_fu (by decide) (by decide) (by decide) (by decide) ⟨fun _ _ => rfl, fun b b0 b1 => by omega⟩) (fun g hg => zh_ret ⟨hg.1, .inl ⟨rfl, hg.2⟩⟩) fun w hw => zh_ret ⟨hw.2.1, .inr ⟨hw.1, hw.2.2⟩⟩
  obtain ⟨f1, f2⟩ := hI
  show zh_ok (zf_Matcher_narrow_l0_b x2 a i o (o + 8) nr J (zf_Matcher_narrow_l0 x2 a i o (o + 8) nr J n) j g) _
  unfold zf_Matcher_narrow_l0_b
  refine zh_ite (fun hj => ?_) fun _ => zh_ret ⟨f1, fun b b0 b1 hb => f2 b b0 (by omega) hb⟩
  rw [zi_w_id (x := j + 1) (by omega) (by omega), zi_w_id (x := o + j) (by omega) (by omega), zi_w_id (x := o + 8 + j) (by omega) (by omega), f1 (o + j) (by omega)]
  by_cases hb : zb x2 j.toNat = true
  · rw [zb_bit1 j0 (by omega) hb, if_neg (show ¬ (1 : Int) = 0 by decide), zl_ci (a := o + j) (by omega) (by omega), zl_ci a0 (by omega)]
    have step : zh_ok (zf_Matcher_narrow_l0 x2 a i o (o + 8) nr J n (j + 1) (zv_up g (o + 8 + j) (ym_nw nr J a i (G (o + j)) j))) _ := k _ hj ⟨fun q hq => by rw [zv_up_n (by omega)]; exact f1 q hq, fun b b0 b1 hb2 => by
      by_cases e : b = j
      · subst e; rw [zv_up_s]
      · rw [zv_up_n (by omega)]; exact f2 b b0 (by omega) hb2⟩
    by_cases hn : zb (nr a) j.toNat = true
    · rw [zb_bit1 j0 (by omega) hn, if_neg (show ¬ (1 : Int) = 0 by decide), zl_ci i0 (by omega)]
      have e : ym_nw nr J a i (G (o + j)) j = zi_and (zi_and (G (o + j)) (zi_xor (zi_shl 1 i) (-1))) (J i) := if_pos hn
      rw [← e]
      refine zh_ite (fun hz => zh_ret ⟨rfl, f1, j, j0, hj, hb, hz⟩) fun hz => ?_
      rw [zl_ci (a := o + 8 + j) (by omega) (by omega)]
      exact step
    · rw [zb_bit0 j0 (by omega) hn, if_pos rfl]
      have e : ym_nw nr J a i (G (o + j)) j = zi_and (G (o + j)) (zi_xor (zi_shl 1 i) (-1)) := if_neg hn
      rw [← e]
      refine zh_ite (fun hz => zh_ret ⟨rfl, f1, j, j0, hj, hb, hz⟩) fun hz => ?_
      rw [zl_ci (a := o + 8 + j) (by omega) (by omega)]
      exact step
  · rw [zb_bit0 j0 (by omega) hb, if_pos rfl]
    exact k g hj ⟨f1, fun b b0 b1 hb2 => f2 b b0 (by
      by_cases e : b = j
      · subst e; exact absurd hb2 hb
      · omega) hb2⟩
theorem ym_nw_b {nr J : Int → Int} {a i v b : Int} {q : Nat} (i0 : 0 ≤ i) (i1 : i < 24) (hq : q < 24) : zb (ym_nw nr J a i v b) q = (zb v q && (!decide (q = i.toNat) && (!zb (nr a) b.toNat || zb (J i) q))) := by
  unfold ym_nw
  by_cases hn : zb (nr a) b.toNat = true
  · rw [if_pos hn, zb_and, zb_clr i0 i1 hq, hn]
    cases zb v q <;> cases decide (q = i.toNat) <;> cases zb (J i) q <;> rfl
  · rw [if_neg hn, zb_clr i0 i1 hq, Bool.eq_false_iff.mpr hn]
    cases zb v q <;> cases decide (q = i.toNat) <;> rfl
theorem ym_nw_24 {nr J : Int → Int} {a i v b : Int} (h : z24 v) : z24 (ym_nw nr J a i v b) := by
  unfold ym_nw
  split
  · exact z24_and (z24_and h)
  · exact z24_and h
theorem ym_besides {x1 : Int} {J : Int → Int} (hJ : ∀ i : Nat, i < 24 → z24 (J i)) : zh_ok (zf_Matcher_besides x1 J) fun s => z24 s ∧ ∀ q, zb s q = true ↔ ∃ r : Nat, r < 24 ∧ zb x1 r = true ∧ zb (J r) q = true := by
  refine zh_bind (Q := fun s => z24 s ∧ ∀ q, zb s q = true ↔ ∃ r : Nat, r < 24 ∧ zb x1 r = true ∧ zb (J r) q = true) (zh_loop (F := fun n i (a : Int) => zf_Matcher_besides_l0 x1 J n a i) (N := 24) (I := fun i a => z24 a ∧ ∀ q, zb a q = true ↔ ∃ r : Nat, (r : Int) < i ∧ zb x1 r = true ∧ zb (J r) q = true) (fun n i a i0 i1 hI k => ?_) 24 0 0 zi_fu (by decide) (by decide) (by decide) (by decide) ⟨z24_0, fun q => ?_⟩) fun o ho => zh_ret ho
  · obtain ⟨h1, h2⟩ := hI
    show zh_ok (zf_Matcher_besides_l0_b x1 J (zf_Matcher_besides_l0 x1 J n) a i) _
    unfold zf_Matcher_besides_l0_b
    refine zh_ite (fun hi => ?_) fun _ => zh_ret ⟨h1, fun q => ?_⟩
    · obtain ⟨m, rfl⟩ : ∃ m : Nat, i = m := ⟨i.toNat, by omega⟩
      rw [zi_w_id (x := (m : Int) + 1) (by omega) (by omega)]
      by_cases hb : zb x1 m = true
      · rw [zb_bit1 (t := x1) (i := (m : Int)) i0 (by omega) hb, if_neg (show ¬ (1 : Int) = 0 by decide), zl_ci i0 (by omega)]
        refine k _ hi ⟨z24_or h1 (hJ m (by omega)), fun q => ?_⟩
        rw [zb_or, Bool.or_eq_true, h2]
        constructor
        · rintro (⟨r, r1, r2⟩ | h)
          · exact ⟨r, by omega, r2⟩
          · exact ⟨m, by omega, hb, h⟩
        · rintro ⟨r, r1, r2, r3⟩
          by_cases e : r = m
          · subst e; exact .inr r3
          · exact .inl ⟨r, by omega, r2, r3⟩
      · rw [zb_bit0 (t := x1) (i := (m : Int)) i0 (by omega) hb, if_pos rfl]
        refine k _ hi ⟨h1, fun q => ?_⟩
        rw [h2]
        constructor
        · rintro ⟨r, r1, r2⟩; exact ⟨r, by omega, r2⟩
        · rintro ⟨r, r1, r2, r3⟩
          refine ⟨r, ?_, r2, r3⟩
          by_cases e : r = m
          · subst e; exact absurd r2 hb
          · omega
    · rw [h2]
      constructor
      · rintro ⟨r, r1, r2⟩; exact ⟨r, by omega, r2⟩
      · rintro ⟨r, r1, r2⟩; exact ⟨r, by omega, r2⟩
  · rw [zb_0]
    exact ⟨fun h => (by cases h), fun ⟨r, h, _⟩ => by omega⟩
theorem ym_agree2 {o x7 v : Int} {G J : Int → Int} (hJ : ∀ i : Nat, i < 24 → z24 (J i)) (o0 : 0 ≤ o) (o1 : o ≤ 64) (hv : z24 v) : zh_ok (zf_Matcher_agree_l2 o x7 G J zi_fu v 0) fun s => z24 s ∧ ∀ q, zb s q = true ↔ zb v q = true ∧ ∀ b : Nat, b < 8 → zb x7 b = true → ∃ r : Nat, r < 24 ∧ zb (G (o + b)) r = true ∧ zb (J r) q = true := by
  refine zh_loop (F := fun n i (a : Int) => zf_Matcher_agree_l2 o x7 G J n a i) (N := 8) (I := fun i a => z24 a ∧ ∀ q, zb a q = true ↔ zb v q = true ∧ ∀ b : Nat, (b : Int) < i → zb x7 b = true → ∃ r : Nat, r < 24 ∧ zb (G (o + b)) r = true ∧ zb (J r) q = true) (fun n i a i0 i1 hI k => ?_) 8 0 v zi_fu (by decide) (by decide) (by decide) (by decide) ⟨hv, fun q => ⟨fun h => ⟨h, fun b hb => by omega⟩, fun h => h.1⟩⟩
  obtain ⟨h1, h2⟩ := hI
  show zh_ok (zf_Matcher_agree_l2_b o x7 G J (zf_Matcher_agree_l2 o x7 G J n) a i) _
  unfold zf_Matcher_agree_l2_b
  refine zh_ite (fun hi => ?_) fun _ => zh_ret ⟨h1, fun q => ?_⟩
  · obtain ⟨m, rfl⟩ : ∃ m : Nat, i = m := ⟨i.toNat, by omega⟩
    rw [zi_w_id (x := (m : Int) + 1) (by omega) (by omega), zi_w_id (x := o + (m : Int)) (by omega) (by omega)]
    by_cases hb : zb x7 m = true
    · rw [zb_bit1 (t := x7) (i := (m : Int)) i0 (by omega) hb, if_neg (show ¬ (1 : Int) = 0 by decide), zl_ci (a := o + (m : Int)) (by omega) (by omega)]
      refine zh_bind (ym_besides hJ) fun s hs => k _ hi ⟨z24_and h1, fun q => ?_⟩
      rw [zb_and, Bool.and_eq_true, h2, hs.2]
      constructor
      · rintro ⟨⟨c1, c2⟩, c3⟩
        refine ⟨c1, fun b hb2 hx => ?_⟩
        by_cases e : b = m
        · subst e; exact c3
        · exact c2 b (by omega) hx
      · rintro ⟨c1, c2⟩
        exact ⟨⟨c1, fun b hb2 hx => c2 b (by omega) hx⟩, c2 m (by omega) hb⟩
    · rw [zb_bit0 (t := x7) (i := (m : Int)) i0 (by omega) hb, if_pos rfl]
      refine k _ hi ⟨h1, fun q => ?_⟩
      rw [h2]
      constructor
      · rintro ⟨c1, c2⟩
        refine ⟨c1, fun b hb2 hx => ?_⟩
        by_cases e : b = m
        · subst e; exact absurd hx hb
        · exact c2 b (by omega) hx
      · rintro ⟨c1, c2⟩
        exact ⟨c1, fun b hb2 hx => c2 b (by omega) hx⟩
  · rw [h2]
    constructor
    · rintro ⟨c1, c2⟩; exact ⟨c1, fun b hb2 hx => c2 b (by omega) hx⟩
    · rintro ⟨c1, c2⟩; exact ⟨c1, fun b hb2 hx => c2 b (by omega) hx⟩
theorem ym_agree20 {o v : Int} {G J : Int → Int} : zh_ok (zf_Matcher_agree_l2 o 0 G J zi_fu v 0) fun s => s = v := by
  refine zh_loop (F := fun n i (a : Int) => zf_Matcher_agree_l2 o 0 G J n a i) (N := 8) (I := fun _ a => a = v) (fun n i a i0 i1 hI k => ?_) 8 0 v zi_fu (by decide) (by decide) (by decide) (by decide) rfl
  show zh_ok (zf_Matcher_agree_l2_b o 0 G J (zf_Matcher_agree_l2 o 0 G J n) a i) _
  unfold zf_Matcher_agree_l2_b
  refine zh_ite (fun hi => ?_) fun _ => zh_ret hI
  rw [zi_w_id (x := i + 1) (by omega) (by omega), zb_bit0 i0 (by omega) (by rw [zb_0]; decide), if_pos rfl]
  exact k _ hi hI
theorem zv_up_id {g : Int → Int} {j : Int} : zv_up g j (g j) = g := by
  funext i
  unfold zv_up
  split
  · rename_i h; rw [h]
  · rfl
theorem ym_agree {K : (Int → Int) → Prop} {x1 x2 : Int} {nr G J : Int → Int} (h1 : 0 ≤ x1) (h2 : x1 ≤ 8) (hJ : ∀ i : Nat, i < 24 → z24 (J i))
    (hz : ∀ g, K g → ∀ j : Nat, j < 8 → zb x2 j = true → z24 (g (8 * x1 + j)))
    (hs : ∀ g (j : Nat) v, K g → j < 8 → zb x2 j = true → z24 v → (∀ q, zb v q = true ↔ zb (g (8 * x1 + j)) q = true ∧ ∀ b : Nat, b < 8 → zb (nr j) b = true → zb x2 b = true → ∃ r : Nat, r < 24 ∧ zb (g (8 * x1 + b)) r = true ∧ zb (J r) q = true) → K (zv_up g (8 * x1 + j) v))
    (hK : K G) : zh_ok (zf_Matcher_agree x1 x2 nr G J) fun o => K o.2 ∧ (o.1 = 1 ∨ (o.1 = 0 ∧ ∃ j : Nat, j < 8 ∧ zb x2 j = true ∧ K (zv_up o.2 (8 * x1 + j) 0))) := by
  unfold zf_Matcher_agree
  rw [zi_w_id (x := x1 * 8) (by omega) (by omega), show x1 * 8 = 8 * x1 from Int.mul_comm _ _]
  obtain ⟨o, eo⟩ : ∃ o, o = 8 * x1 := ⟨_, rfl⟩
  rw [← eo] at hz hs ⊢
  have o0 : 0 ≤ o := by omega
  have o1 : o ≤ 64 := by omega
  refine zh_sum (Q := fun q => match q with
    | .inl g => K g
    | .inr w => w.1 = 0 ∧ K w.2 ∧ ∃ j : Nat, j < 8 ∧ zb x2 j = true ∧ K (zv_up w.2 (o + j) 0)) (zh_loop (F := fun n i (a : Int × (Int → Int)) => zf_Matcher_agree_l0 x2 o nr J n a.1 i a.2) (N := 192) (I := fun _ a => K a.2) (fun n i a i0 i1 hI k => ?_) 192 0 (1, G) zi_fu (by decide) (by decide) (by decide) (by decide) hK) (fun g hg => zh_ret ⟨hg, .inl rfl⟩) fun w hw => zh_ret ⟨hw.2.1, .inr ⟨hw.1, hw.2.2⟩⟩
  show zh_ok (zf_Matcher_agree_l0_b x2 o nr J (zf_Matcher_agree_l0 x2 o nr J n) a.1 i a.2) _
  unfold zf_Matcher_agree_l0_b
  refine zh_ite (fun hi => ?_) fun _ => zh_ret hI
  rw [zi_w_id (x := i + 1) (by omega) (by omega)]
  refine zh_ite (fun _ => zh_ret hI) fun _ => zh_sum (Q := fun q => match q with
    | .inl a => K a.2
    | .inr w => w.1 = 0 ∧ K w.2 ∧ ∃ j : Nat, j < 8 ∧ zb x2 j = true ∧ K (zv_up w.2 (o + j) 0)) (zh_loop (F := fun n j (a : Int × (Int → Int)) => zf_Matcher_agree_l1 x2 o nr J n a.1 j a.2) (N := 8) (I := fun _ a => K a.2) (fun n j a j0 j1 hI k2 => ?_) 8 0 (0, a.2) zi_fu (by decide) (by decide) (by decide) (by decide) hI) (fun b hb => k (_, _) hi hb) fun b hb => zh_ret hb
  obtain ⟨c, g⟩ := a
  have hg : K g := hI
  show zh_ok (zf_Matcher_agree_l1_b x2 o nr J (zf_Matcher_agree_l1 x2 o nr J n) c j g) _
  unfold zf_Matcher_agree_l1_b
  refine zh_ite (fun hj => ?_) fun _ => zh_ret hI
  obtain ⟨m, rfl⟩ : ∃ m : Nat, j = m := ⟨j.toNat, by omega⟩
  rw [zi_w_id (x := (m : Int) + 1) (by omega) (by omega), zi_w_id (x := o + (m : Int)) (by omega) (by omega)]
  by_cases hb : zb x2 m = true
  · rw [zb_bit1 (t := x2) (i := (m : Int)) j0 (by omega) hb, if_neg (show ¬ (1 : Int) = 0 by decide), zl_ci j0 (by omega), zl_ci (a := o + (m : Int)) (by omega) (by omega)]
    refine zh_bind (ym_agree2 hJ o0 o1 (hz g hg m (by omega) hb)) fun s hs2 => ?_
    have hK2 : K (zv_up g (o + (m : Int)) s) := hs g m s hg (by omega) hb hs2.1 fun q => by
      rw [hs2.2]
      constructor
      · rintro ⟨c1, c2⟩
        exact ⟨c1, fun b b1 b2 b3 => c2 b b1 (by rw [zb_and, b2, b3]; rfl)⟩
      · rintro ⟨c1, c2⟩
        refine ⟨c1, fun b b1 b2 => ?_⟩
        rw [zb_and, Bool.and_eq_true] at b2
        exact c2 b b1 b2.1 b2.2
    have kk : ∀ c2, zh_ok (zf_Matcher_agree_l1 x2 o nr J n c2 ((m : Int) + 1) (zv_up g (o + (m : Int)) s)) _ := fun c2 => k2 (c2, _) hj hK2
    refine zh_ite (fun _ => zh_ite (fun _ => zh_ite (fun _ => kk _) fun _ => kk _) fun _ => kk _) fun _ => zh_ite (fun hz0 => zh_ret ⟨rfl, hg, m, by omega, hb, ?_⟩) fun _ => zh_ite (fun _ => zh_ite (fun _ => kk _) fun _ => kk _) fun _ => kk _
    rw [← hz0]; exact hK2
  · rw [zb_bit0 (t := x2) (i := (m : Int)) j0 (by omega) hb, if_pos rfl, zl_ci (a := o + (m : Int)) (by omega) (by omega)]
    refine zh_bind ym_agree20 fun s hs2 => ?_
    rw [hs2, zv_up_id]
    have kk : ∀ c2, zh_ok (zf_Matcher_agree_l1 x2 o nr J n c2 ((m : Int) + 1) g) _ := fun c2 => k2 (c2, _) hj hg
    exact zh_ite (fun _ => zh_ite (fun _ => kk _) fun _ => kk _) fun _ => kk _
/-- the rank of a name: fewest stars first, then most lines -/
def ym_rk (o : Int) (G nr : Int → Int) (b : Int) : Int := 8 * zs_sum (G (o + b)) 24 - zs_sum (nr b) 24
theorem ym_tightest {x1 x2 : Int} {G nr : Int → Int} (h1 : 0 ≤ x1) (h2 : x1 < 8) (hz : ∀ j : Nat, j < 8 → zb x2 j = true → z24 (G (8 * x1 + j))) (hn : ∀ j : Nat, j < 8 → z24 (nr j)) (hex : ∃ j : Nat, j < 8 ∧ zb x2 j = true) :
    zh_ok (zf_Matcher_tightest x1 x2 G nr) fun r => (0 ≤ r ∧ r < 8) ∧ zb x2 r.toNat = true ∧ ∀ j : Nat, j < 8 → zb x2 j = true → ym_rk (8 * x1) G nr r ≤ ym_rk (8 * x1) G nr j := by
  obtain ⟨o, eo⟩ : ∃ o, o = 8 * x1 := ⟨_, rfl⟩
  rw [← eo] at hz ⊢
  refine zh_bind (Q := fun r => (0 ≤ r ∧ r < 8) ∧ zb x2 r.toNat = true ∧ ∀ j : Nat, j < 8 → zb x2 j = true → ym_rk o G nr r ≤ ym_rk o G nr j) (zh_loop (F := fun n i (a : Int × Int) => zf_Matcher_tightest_l0 x1 x2 G nr n a.1 a.2 i) (N := 8) (I := fun i a => (a.2 = 200 ∧ ∀ j : Nat, (j : Int) < i → ¬ zb x2 j = true) ∨ ((0 ≤ a.1 ∧ a.1 < 8) ∧ zb x2 a.1.toNat = true ∧ a.2 = ym_rk o G nr a.1 ∧ ∀ j : Nat, (j : Int) < i → zb x2 j = true → ym_rk o G nr a.1 ≤ ym_rk o G nr j)) (fun n i a i0 i1 hI k => ?_) 8 0 (0, 200) zi_fu (by decide) (by decide) (by decide) (by decide) (.inl ⟨rfl, fun j hj => by omega⟩)) fun r hr => zh_ret hr
  show zh_ok (zf_Matcher_tightest_l0_b x1 x2 G nr (zf_Matcher_tightest_l0 x1 x2 G nr n) a.1 a.2 i) _
  unfold zf_Matcher_tightest_l0_b
  refine zh_ite (fun hi => ?_) fun _ => ?_
  · obtain ⟨m, rfl⟩ : ∃ m : Nat, i = m := ⟨i.toNat, by omega⟩
    rw [zi_w_id (x := (m : Int) + 1) (by omega) (by omega), zi_w_id (x := x1 * 8) (by omega) (by omega), show x1 * 8 = o by omega, zi_w_id (x := o + (m : Int)) (by omega) (by omega)]
    by_cases hb : zb x2 m = true
    · rw [zb_bit1 (t := x2) (i := (m : Int)) i0 (by omega) hb, if_neg (show ¬ (1 : Int) = 0 by decide), zl_ci (a := o + (m : Int)) (by omega) (by omega), ze_bc (hz m (by omega) hb), zl_b, zl_ci i0 (by omega), ze_bc (hn m (by omega)), zl_b]
      have s1 := zs_sum_in (t := G (o + (m : Int))) 24
      have s2 := zs_sum_in (t := nr (m : Int)) 24
      have er : ym_rk o G nr m = 8 * zs_sum (G (o + (m : Int))) 24 - zs_sum (nr (m : Int)) 24 := rfl
      rw [zi_w_id (x := 8 * zs_sum (G (o + (m : Int))) 24) (by omega) (by omega), zi_w_id (x := 8 * zs_sum (G (o + (m : Int))) 24 - zs_sum (nr (m : Int)) 24) (by omega) (by omega), ← er]
      have er2 : ym_rk o G nr m ≤ 192 := by omega
      refine zh_ite (fun hlt => k (_, _) hi (.inr ⟨⟨i0, hi⟩, hb, rfl, fun j hj hj2 => ?_⟩)) fun hge => k a hi ?_
      · by_cases e : j = m
        · subst e; exact Int.le_refl _
        · rcases hI with ⟨q1, q2⟩ | ⟨q1, q2, q3, q4⟩
          · exact absurd hj2 (q2 j (by omega))
          · have := q4 j (by omega) hj2
            show ym_rk o G nr m ≤ _
            omega
      · rcases hI with ⟨q1, q2⟩ | ⟨q1, q2, q3, q4⟩
        · omega
        · refine .inr ⟨q1, q2, q3, fun j hj hj2 => ?_⟩
          by_cases e : j = m
          · subst e; omega
          · exact q4 j (by omega) hj2
    · rw [zb_bit0 (t := x2) (i := (m : Int)) i0 (by omega) hb, if_pos rfl]
      refine k a hi ?_
      rcases hI with ⟨q1, q2⟩ | ⟨q1, q2, q3, q4⟩
      · refine .inl ⟨q1, fun j hj => ?_⟩
        by_cases e : j = m
        · subst e; exact hb
        · exact q2 j (by omega)
      · refine .inr ⟨q1, q2, q3, fun j hj hj2 => ?_⟩
        by_cases e : j = m
        · subst e; exact absurd hj2 hb
        · exact q4 j (by omega) hj2
  · rcases hI with ⟨q1, q2⟩ | ⟨q1, q2, q3, q4⟩
    · obtain ⟨j, j1, j2⟩ := hex
      exact absurd j2 (q2 j (by omega))
    · exact zh_ret ⟨q1, q2, fun j hj => q4 j (by omega)⟩
/-! what a search begins with -/
theorem ym_withLegs {z x2 : Int} {J : Int → Int} (hJ : ∀ i : Nat, i < 24 → z24 (J i)) : zh_ok (zf_Matcher_withLegs z x2 J) fun s => z24 s ∧ ∀ q, zb s q = (decide (q < 24) && (zb z q && decide (x2 ≤ zs_sum (zi_and (J q) z) 24))) := by
  refine zh_bind (Q := fun s => z24 s ∧ ∀ q, zb s q = (decide (q < 24) && (zb z q && decide (x2 ≤ zs_sum (zi_and (J q) z) 24)))) (zh_loop (F := fun n i (a : Int) => zf_Matcher_withLegs_l0 z x2 J n a i) (N := 24) (I := fun i a => z24 a ∧ ∀ q, zb a q = (decide (q < i.toNat) && (zb z q && decide (x2 ≤ zs_sum (zi_and (J q) z) 24)))) (fun n i a i0 i1 hI k => ?_) 24 0 0 zi_fu (by decide) (by decide) (by decide) (by decide) ⟨z24_0, fun q => by rw [zb_0, decide_eq_false (show ¬ q < Int.toNat 0 from Nat.not_lt_zero q), Bool.false_and]⟩) fun o ho => zh_ret ho
  obtain ⟨h1, h2⟩ := hI
  show zh_ok (zf_Matcher_withLegs_l0_b z x2 J (zf_Matcher_withLegs_l0 z x2 J n) a i) _
  unfold zf_Matcher_withLegs_l0_b
  obtain ⟨m, rfl⟩ : ∃ m : Nat, i = m := ⟨i.toNat, by omega⟩
  have h2 : ∀ q, zb a q = (decide (q < m) && (zb z q && decide (x2 ≤ zs_sum (zi_and (J q) z) 24))) := h2
  refine zh_ite (fun hi => ?_) fun hi => zh_ret ⟨h1, fun q => by rw [h2, show m = 24 by omega]⟩
  have hm : m < 24 := by omega
  have grow := zb_grow (s := a) (i := (m : Int)) (n := m) (P := fun q => (zb z q && decide (x2 ≤ zs_sum (zi_and (J q) z) 24))) rfl hm h2
  have e1 : ((m : Int) + 1).toNat = m + 1 := by omega
  rw [zi_w_id (x := (m : Int) + 1) (by omega) (by omega)]
  have kk : ∀ a', z24 a' → (∀ q, zb a' q = (decide (q < m + 1) && (zb z q && decide (x2 ≤ zs_sum (zi_and (J q) z) 24)))) → zh_ok (zf_Matcher_withLegs_l0 z x2 J n a' ((m : Int) + 1)) _ := fun a' q1 q2 => k a' hi ⟨q1, by rw [e1]; exact q2⟩
  by_cases hb : zb z m = true
  · rw [zb_bit1 (t := z) (i := (m : Int)) i0 (by omega) hb, if_neg (show ¬ (1 : Int) = 0 by decide), zl_ci i0 (by omega), ze_bc (z24_and (hJ m hm)), zl_b]
    refine zh_ite (fun hlt => ?_) fun hge => ?_
    · rw [if_neg (by show ¬ (zb z m && decide (x2 ≤ zs_sum (zi_and (J m) z) 24)) = true; rw [decide_eq_false (by omega), Bool.and_false]; decide)] at grow
      exact kk _ h1 grow
    · rw [if_pos (by show (zb z m && decide (x2 ≤ zs_sum (zi_and (J m) z) 24)) = true; rw [decide_eq_true (by omega), hb]; rfl)] at grow
      exact kk _ (z24_or h1 (z24_shl i0 hi)) grow
  · rw [zb_bit0 (t := z) (i := (m : Int)) i0 (by omega) hb, if_pos rfl]
    rw [if_neg (by show ¬ (zb z m && decide (x2 ≤ zs_sum (zi_and (J m) z) 24)) = true; rw [Bool.eq_false_iff.mpr hb, Bool.false_and]; decide)] at grow
    exact kk _ h1 grow
def ym_tw (z : Int) (J : Int → Int) (p q : Nat) : Prop := zb z p = true ∧ zb z q = true ∧ ∀ x : Nat, x < 24 → zb z x = true → x ≠ p → x ≠ q → zb (J p) x = zb (J q) x
theorem ym_tw_s {z : Int} {J : Int → Int} {p q : Nat} (h : ym_tw z J p q) : ym_tw z J q p := ⟨h.2.1, h.1, fun x x1 x2 x3 x4 => (h.2.2 x x1 x2 x4 x3).symm⟩
theorem ym_tc {z : Int} {J : Int → Int} {i j : Nat} (hi : i < 24) (hj : j < 24) (hJ : ∀ i : Nat, i < 24 → z24 (J i)) : zi_and (zi_and (zi_xor (J i) (J j)) z) (zi_xor (zi_or (zi_shl 1 i) (zi_shl 1 j)) (-1)) = 0 ↔ ∀ x : Nat, x < 24 → zb z x = true → x ≠ i → x ≠ j → zb (J i) x = zb (J j) x := by
  rw [z24_z (z24_and (z24_and (z24_xor (hJ i hi) (hJ j hj))))]
  have e : ∀ x : Nat, x < 24 → zb (zi_and (zi_and (zi_xor (J i) (J j)) z) (zi_xor (zi_or (zi_shl 1 i) (zi_shl 1 j)) (-1))) x = (((zb (J i) x ^^ zb (J j) x) && zb z x) && !(decide (x = i) || decide (x = j))) := fun x hx => by
    rw [zb_and, zb_and, zb_xor, zb_not (by omega), zb_or, zb_shl (by omega) (by omega), zb_shl (by omega) (by omega)]
    rfl
  constructor
  · intro h x hx zx xi xj
    have q := h x hx
    rw [e x hx, zx, decide_eq_false xi, decide_eq_false xj] at q
    cases a : zb (J i) x <;> cases b : zb (J j) x <;> rw [a, b] at q <;> first | rfl | exact absurd q (by decide)
  · intro h x hx
    rw [e x hx]
    by_cases zx : zb z x = true
    · by_cases xi : x = i
      · rw [decide_eq_true xi, Bool.true_or, Bool.not_true, Bool.and_false]
      · by_cases xj : x = j
        · rw [decide_eq_true xj, Bool.or_true, Bool.not_true, Bool.and_false]
        · rw [h x hx zx xi xj, Bool.xor_self, Bool.false_and, Bool.false_and]
    · rw [Bool.eq_false_iff.mpr zx, Bool.and_false, Bool.false_and]
end
section
/-! What a search begins with: rows and twins. -/
/-- twins, as far as they are noted: of the stars below i, and of i as far as m -/
def ym_ti (z : Int) (J T : Int → Int) (i m : Nat) : Prop :=
  (∀ p : Nat, p < i → ∀ q, zb (T p) q = true ↔ (q < i ∧ (q = p ∨ ym_tw z J p q)) ∨ (q = i ∧ p < m ∧ ym_tw z J p i)) ∧ ∀ q, zb (T i) q = true ↔ q = i ∨ (q < m ∧ ym_tw z J i q)
theorem ym_begin_l2 {z : Int} {J : Int → Int} (hJ : ∀ i : Nat, i < 24 → z24 (J i)) {i : Nat} (hi : i < 24) {T : Int → Int} (hT : ym_ti z J T i 0) : zh_ok (zf_Matcher_begin_24_l2 z i J zi_fu 0 T) fun T' => ym_ti z J T' i i := by
  refine zh_loop (F := fun n j (a : Int → Int) => zf_Matcher_begin_24_l2 z i J n j a) (N := (i : Int)) (I := fun j a => ym_ti z J a i j.toNat) (fun n j a j0 j1 hI k => ?_) 24 0 T zi_fu (by omega) (by decide) (by omega) (by decide) hT
  show zh_ok (zf_Matcher_begin_24_l2_b z i J (zf_Matcher_begin_24_l2 z i J n) j a) _
  unfold zf_Matcher_begin_24_l2_b
  obtain ⟨m, rfl⟩ : ∃ m : Nat, j = m := ⟨j.toNat, by omega⟩
  have hI : ym_ti z J a i m := hI
  refine zh_ite (fun hj => ?_) fun hj => zh_ret (by rw [show m = i by omega] at hI; exact hI)
  have hm : m < i := by omega
  obtain ⟨h1, h2⟩ := id hI
  by_cases hz : zb z i = true
  · rw [zb_bit1 (t := z) (i := (i : Int)) (by omega) (by omega) hz, if_neg (show ¬ (1 : Int) = 0 by decide), zl_ci (a := (i : Int)) (by omega) (by omega), zl_ci j0 (by omega), zi_w_id (x := (m : Int) + 1) (by omega) (by omega)]
    have e1 : ((m : Int) + 1).toNat = m + 1 := by omega
    have kk : ∀ a', ym_ti z J a' i (m + 1) → zh_ok (zf_Matcher_begin_24_l2 z i J n ((m : Int) + 1) a') _ := fun a' q => k a' hj (by rw [e1]; exact q)
    have no : ¬ ym_tw z J i m → ym_ti z J a i (m + 1) := fun hno => ⟨fun p hp q => by
      rw [h1 p hp q]
      constructor
      · rintro (h | ⟨h3, h4, h5⟩)
        · exact .inl h
        · exact .inr ⟨h3, by omega, h5⟩
      · rintro (h | ⟨h3, h4, h5⟩)
        · exact .inl h
        · refine .inr ⟨h3, ?_, h5⟩
          by_cases e : p = m
          · subst e; exact absurd (ym_tw_s h5) hno
          · omega, fun q => by
      rw [h2 q]
      constructor
      · rintro (h | ⟨h3, h4⟩)
        · exact .inl h
        · exact .inr ⟨by omega, h4⟩
      · rintro (h | ⟨h3, h4⟩)
        · exact .inl h
        · refine .inr ⟨?_, h4⟩
          by_cases e : q = m
          · subst e; exact absurd h4 hno
          · omega⟩
    refine zh_ite (fun hc => ?_) fun hc => kk _ (no fun w => hc ((ym_tc hi (by omega) hJ).mpr w.2.2))
    by_cases hzm : zb z m = true
    · rw [zb_bit1 (t := z) (i := (m : Int)) j0 (by omega) hzm, if_neg (show ¬ (1 : Int) = 0 by decide)]
      have htw : ym_tw z J i m := ⟨hz, hzm, (ym_tc hi (by omega) hJ).mp hc⟩
      rw [zv_up_n (show (m : Int) ≠ (i : Int) by omega)]
      refine kk _ ⟨fun p hp q => ?_, fun q => ?_⟩
      · by_cases e : p = m
        · subst e
          rw [zv_up_s, zb_or, Bool.or_eq_true, h1 p hp q, zb_shl (by omega) (by omega), decide_eq_true_iff, Int.toNat_natCast]
          constructor
          · rintro ((h | ⟨h3, h4, h5⟩) | h)
            · exact .inl h
            · omega
            · exact .inr ⟨h, by omega, ym_tw_s htw⟩
          · rintro (h | ⟨h3, h4, h5⟩)
            · exact .inl (.inl h)
            · exact .inr h3
        · rw [zv_up_n (by omega), zv_up_n (by omega), h1 p hp q]
          constructor
          · rintro (h | ⟨h3, h4, h5⟩)
            · exact .inl h
            · exact .inr ⟨h3, by omega, h5⟩
          · rintro (h | ⟨h3, h4, h5⟩)
            · exact .inl h
            · exact .inr ⟨h3, by omega, h5⟩
      · rw [zv_up_n (by omega), zv_up_s, zb_or, Bool.or_eq_true, h2 q, zb_shl (by omega) (by omega), decide_eq_true_iff, Int.toNat_natCast]
        constructor
        · rintro ((h | ⟨h3, h4⟩) | h)
          · exact .inl h
          · exact .inr ⟨by omega, h4⟩
          · exact .inr ⟨by omega, by rw [h]; exact htw⟩
        · rintro (h | ⟨h3, h4⟩)
          · exact .inl (.inl h)
          · by_cases e : q = m
            · exact .inr e
            · exact .inl (.inr ⟨by omega, h4⟩)
    · rw [zb_bit0 (t := z) (i := (m : Int)) j0 (by omega) hzm, if_pos rfl]
      exact kk _ (no fun w => hzm w.2.1)
  · rw [zb_bit0 (t := z) (i := (i : Int)) (by omega) (by omega) hz, if_pos rfl]
    refine zh_ret ⟨fun p hp q => ?_, fun q => ?_⟩
    · rw [h1 p hp q]
      constructor
      · rintro (h | ⟨h3, h4, h5⟩)
        · exact .inl h
        · exact absurd h5.2.1 hz
      · rintro (h | ⟨h3, h4, h5⟩)
        · exact .inl h
        · exact absurd h5.2.1 hz
    · rw [h2 q]
      constructor
      · rintro (h | ⟨h3, h4⟩)
        · exact .inl h
        · exact absurd h4.1 hz
      · rintro (h | ⟨h3, h4⟩)
        · exact .inl h
        · exact absurd h4.1 hz
theorem ym_begin {z f2 : Int} {J G nr T : Int → Int} (hJ : ∀ i : Nat, i < 24 → z24 (J i)) (hn : ∀ j : Nat, j < 8 → z24 (nr j)) :
    zh_ok (zf_Matcher_begin_24 z f2 J G nr T) fun o => o.1 = 0 ∧ (∀ b : Nat, b < 8 → z24 (o.2.1 b) ∧ ∀ q, zb (o.2.1 b) q = (decide (q < 24) && (zb z q && decide (zs_sum (nr b) 24 ≤ zs_sum (zi_and (J q) z) 24)))) ∧ ∀ p : Nat, p < 24 → ∀ q, zb (o.2.2 p) q = true ↔ q < 24 ∧ (q = p ∨ ym_tw z J p q) := by
  unfold zf_Matcher_begin_24
  refine zh_bind (Q := fun g => ∀ b : Nat, b < 8 → z24 (g b) ∧ ∀ q, zb (g b) q = (decide (q < 24) && (zb z q && decide (zs_sum (nr b) 24 ≤ zs_sum (zi_and (J q) z) 24)))) (zh_loop (F := fun n i (a : Int → Int) => zf_Matcher_begin_24_l0 z J nr n i a) (N := 8) (I := fun i g => ∀ b : Nat, (b : Int) < i → z24 (g b) ∧ ∀ q, zb (g b) q = (decide (q < 24) && (zb z q && decide (zs_sum (nr b) 24 ≤ zs_sum (zi_and (J q) z) 24)))) (fun n i a i0 i1 hI k => ?_) 8 0 G zi_fu (by decide) (by decide) (by decide) (by decide) fun b hb => by omega) fun g hg =>
    zh_bind (Q := fun t => ∀ p : Nat, p < 24 → ∀ q, zb (t p) q = true ↔ q < 24 ∧ (q = p ∨ ym_tw z J p q)) (zh_loop (F := fun n i (a : Int → Int) => zf_Matcher_begin_24_l1 z J n i a) (N := 24) (I := fun i t => ∀ p : Nat, (p : Int) < i → ∀ q : Nat, zb (t p) q = true ↔ (q : Int) < i ∧ (q = p ∨ ym_tw z J p q)) (fun n i a i0 i1 hI k => ?_) 24 0 T zi_fu (by decide) (by decide) (by decide) (by decide) fun p hp => by omega) fun t ht => zh_ret ⟨rfl, hg, ht⟩
  · show zh_ok (zf_Matcher_begin_24_l0_b z J nr (zf_Matcher_begin_24_l0 z J nr n) i a) _
    unfold zf_Matcher_begin_24_l0_b
    refine zh_ite (fun hi => ?_) fun hi => zh_ret fun b hb => hI b (by omega)
    obtain ⟨m, rfl⟩ : ∃ m : Nat, i = m := ⟨i.toNat, by omega⟩
    rw [zi_w_id (x := (m : Int) + 1) (by omega) (by omega), zl_ci (n := 8) i0 (by omega), ze_bc (hn m (by omega)), zl_b]
    refine zh_bind (ym_withLegs hJ) fun s hs => ?_
    rw [zl_ci i0 (by omega)]
    refine k _ hi fun b hb => ?_
    by_cases e : b = m
    · subst e; rw [zv_up_s]; exact hs
    · rw [zv_up_n (by omega)]; exact hI b (by omega)
  · show zh_ok (zf_Matcher_begin_24_l1_b z J (zf_Matcher_begin_24_l1 z J n) i a) _
    unfold zf_Matcher_begin_24_l1_b
    refine zh_ite (fun hi => ?_) fun hi => zh_ret fun p hp q => by
      rw [hI p (by omega) q]
      constructor
      · rintro ⟨h1, h2⟩; exact ⟨by omega, h2⟩
      · rintro ⟨h1, h2⟩; exact ⟨by omega, h2⟩
    obtain ⟨m, rfl⟩ : ∃ m : Nat, i = m := ⟨i.toNat, by omega⟩
    rw [zi_w_id (x := (m : Int) + 1) (by omega) (by omega), zl_ci i0 (by omega)]
    refine zh_bind (ym_begin_l2 hJ (by omega : m < 24) (T := zv_up a (m : Int) (zi_shl 1 (m : Int))) ⟨fun p hp q => ?_, fun q => ?_⟩) fun t ht => k t hi fun p hp q => ?_
    · rw [zv_up_n (by omega), hI p (by omega) q]
      constructor
      · rintro ⟨h1, h2⟩; exact .inl ⟨by omega, h2⟩
      · rintro (⟨h1, h2⟩ | ⟨h1, h2, h3⟩)
        · exact ⟨by omega, h2⟩
        · omega
    · rw [zv_up_s, zb_shl (by omega) (by omega), decide_eq_true_iff, Int.toNat_natCast]
      constructor
      · intro h; exact .inl h
      · rintro (h | ⟨h1, h2⟩)
        · exact h
        · omega
    · by_cases e : p = m
      · subst e
        rw [ht.2 q]
        constructor
        · rintro (h | ⟨h1, h2⟩)
          · exact ⟨by omega, .inl h⟩
          · exact ⟨by omega, .inr h2⟩
        · rintro ⟨h1, h | h⟩
          · exact .inl h
          · by_cases e2 : q = p
            · exact .inl e2
            · exact .inr ⟨by omega, h⟩
      · rw [ht.1 p (by omega) q]
        constructor
        · rintro (⟨h1, h2⟩ | ⟨h1, h2, h3⟩)
          · exact ⟨by omega, h2⟩
          · subst h1; exact ⟨by omega, .inr h3⟩
        · rintro ⟨h1, h2⟩
          by_cases e2 : q = m
          · subst e2
            rcases h2 with h2 | h2
            · omega
            · exact .inr ⟨rfl, by omega, h2⟩
          · exact .inl ⟨by omega, h2⟩
end
