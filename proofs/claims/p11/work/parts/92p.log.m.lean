/-! 92p.log, 92q.mlog, 93a.legs, 93b.fast, 93c.mfast, 93d.fastest, 93e.count, 94a.cons, 94b.cons2, 94c.head -/
section
/-! log: both sides answer. -/
section YWG
variable {L : zLW} {K V kd fr hf to C mk mf mh mt T M : Int → Int} {nc tS tL sP lP mc : Int} {t h u cl sc sr ch ts p i : Int} {co ro br wc wr m gp gl : Int → Int}
def yw_rv (v : Int) : Prop := v = -1 ∨ (0 ≤ v ∧ v < 288)
theorem yw_rn_u {k v : Int} {g : Int → Int} (h : yw_rn g) (hv : yw_rv v) : yw_rn (zv_up g k v) := fun j j0 j1 => by
  by_cases e : j = k
  · subst e; rw [zv_up_s]; exact hv
  · rw [zv_up_n e]; exact h j j0 j1
theorem yw_go_rv {how : Int} (p1 : 0 ≤ p) (p2 : p < 288) : yw_rv (yg_go p how) := by
  have := yg_go_in (how := how) p1 p2
  unfold yw_rv
  omega
def yw_logS (a w ln n : Int) : Int := if zs_in a 1 12 = 0 then n else if zs_in w 0 1 = 0 then n else if ln = 0 then n else if n < 2 * a then n else 0
theorem yw_move (z : yk_sea ts gp gl m) {how : Int} {g : Int → Int} (hg : yw_rn g) : zh_ok (zf_X_moveSpots how g gl) yw_rn := by
  unfold zf_X_moveSpots
  refine zh_bind (Q := yw_rn) (zh_loop (F := fun f j (b : Int → Int) => zf_X_moveSpots_l0 how gl f j b) (N := 288) (I := fun _ b => yw_rn b) (fun f j b j0 j1 ha kk => ?_) 288 0 g zi_fu (by decide) (by decide) (by decide) (by decide) hg) fun q hq => zh_ret hq
  show zh_ok (zf_X_moveSpots_l0_b how gl (zf_X_moveSpots_l0 how gl f) j b) _
  unfold zf_X_moveSpots_l0_b
  refine zh_ite (fun hj => ?_) fun _ => zh_ret ha
  rw [zi_w_id (x := j + 1) (by omega) (by omega)]
  refine zh_cond (zi_ix_of j0 hj) (zh_ite (fun _ => kk _ hj ha) fun hne => ?_)
  obtain ⟨v0, v1⟩ := (ha j j0 hj).resolve_left hne
  rw [ze_goFrom z v0 v1, zl_b]
  refine kk _ hj (yw_rn_u ha ?_)
  split
  · exact Or.inl rfl
  · exact yw_go_rv v0 v1
theorem yw_lg2X (R : yl_R L K V nc tS tL sP lP kd fr hf to mc C mk mf mh mt) (k : yk_sky t h u cl sc sr ch co ro br wc wr m) {w nn e1 e2 e3 e4 e5 e6 e7 : Int} {nr d1 d2 d3 d4 d5 d6 d7 d8 d9 : Int → Int} (hc : yv_ca L sP h u co ro br e1 e5) (hp : yv_cp L lP h u co ro br d2 d6) (hs : yw_so d9) (hn : yw_rn d1) :
    zh_ok (zf_X_log_l2 w t h u cl sc sr tS nc sP nn tL lP co ro br kd hf to K V nr zi_fu 0 e1 e2 e3 e4 e5 e6 e7 d1 d2 d3 d4 d5 d6 d7 d8 d9) fun o => yw_rn o.2.2.2.2.2.2.2.1 ∧ yw_so o.2.2.2.2.2.2.2.2.2.2.2.2.2.2.2 := by
  refine zh_loop (F := fun f j (b : Int × Int × Int × Int × Int × Int × Int × (Int → Int) × (Int → Int) × (Int → Int) × (Int → Int) × (Int → Int) × (Int → Int) × (Int → Int) × (Int → Int) × (Int → Int)) => zf_X_log_l2 w t h u cl sc sr tS nc sP nn tL lP co ro br kd hf to K V nr f j b.1 b.2.1 b.2.2.1 b.2.2.2.1 b.2.2.2.2.1 b.2.2.2.2.2.1 b.2.2.2.2.2.2.1 b.2.2.2.2.2.2.2.1 b.2.2.2.2.2.2.2.2.1 b.2.2.2.2.2.2.2.2.2.1 b.2.2.2.2.2.2.2.2.2.2.1 b.2.2.2.2.2.2.2.2.2.2.2.1 b.2.2.2.2.2.2.2.2.2.2.2.2.1 b.2.2.2.2.2.2.2.2.2.2.2.2.2.1 b.2.2.2.2.2.2.2.2.2.2.2.2.2.2.1 b.2.2.2.2.2.2.2.2.2.2.2.2.2.2.2) (N := 288) (I := fun _ o => yv_ca L sP h u co ro br o.1 o.2.2.2.2.1 ∧ yv_cp L lP h u co ro br o.2.2.2.2.2.2.2.2.1 o.2.2.2.2.2.2.2.2.2.2.2.2.1 ∧ yw_rn o.2.2.2.2.2.2.2.1 ∧ yw_so o.2.2.2.2.2.2.2.2.2.2.2.2.2.2.2) (fun f j b j0 j1 ha kk => ?_) 288 0 (e1, e2, e3, e4, e5, e6, e7, d1, d2, d3, d4, d5, d6, d7, d8, d9) zi_fu (by decide) (by decide) (by decide) (by decide) ⟨hc, hp, hn, hs⟩
  obtain ⟨b1, b2, b3, b4, b5, b6, b7, b8, b9, b10, b11, b12, b13, b14, b15, b16⟩ := b
  obtain ⟨a1, a2, a3, a4⟩ := ha
  dsimp only at a1 a2 a3 a4
  show zh_ok (zf_X_log_l2_b w t h u cl sc sr tS nc sP nn tL lP co ro br kd hf to K V nr (zf_X_log_l2 w t h u cl sc sr tS nc sP nn tL lP co ro br kd hf to K V nr f) j b1 b2 b3 b4 b5 b6 b7 b8 b9 b10 b11 b12 b13 b14 b15 b16) _
  unfold zf_X_log_l2_b
  refine zh_ite (fun hj => ?_) fun _ => zh_ret ⟨a3, a4⟩
  rw [zi_w_id (x := j + 1) (by omega) (by omega)]
  have k2 : ∀ c1 c2 c3 c4 c5 c6 c7 c8 c9 c10 c11 c12 c13 c14 c15 c16, yv_ca L sP h u co ro br c1 c5 → yv_cp L lP h u co ro br c9 c13 → yw_rn c8 → yw_so c16 → zh_ok (zf_X_log_l2 w t h u cl sc sr tS nc sP nn tL lP co ro br kd hf to K V nr f (j + 1) c1 c2 c3 c4 c5 c6 c7 c8 c9 c10 c11 c12 c13 c14 c15 c16) _ := fun c1 c2 c3 c4 c5 c6 c7 c8 c9 c10 c11 c12 c13 c14 c15 c16 p1 p2 p3 p4 => kk (c1, c2, c3, c4, c5, c6, c7, c8, c9, c10, c11, c12, c13, c14, c15, c16) hj ⟨p1, p2, p3, p4⟩
  refine zh_cond (zi_ix_of j0 hj) (zh_ite (fun _ => k2 _ _ _ _ _ _ _ _ _ _ _ _ _ _ _ _ a1 a2 a3 a4) fun hne => ?_)
  obtain ⟨v0, v1⟩ := (a3 j j0 hj).resolve_left hne
  exact zh_bind (yw_cbtX R k v0 v1 a1 a2 a4) fun r h5 => zh_ite (fun _ => k2 _ _ _ _ _ _ _ _ _ _ _ _ _ _ _ _ h5.1 h5.2.1 a3 h5.2.2) fun _ => k2 _ _ _ _ _ _ _ _ _ _ _ _ _ _ _ _ h5.1 h5.2.1 (yw_rn_u a3 (Or.inl rfl)) h5.2.2
theorem yw_lg1X (R : yl_R L K V nc tS tL sP lP kd fr hf to mc C mk mf mh mt) (w : yw_wo t h u cl sc sr ch ts co ro br wc wr gl) (hT : yk_T T M) {a nn e1 e2 e3 e4 e5 e6 e7 : Int} {nr d1 c1 c2 c3 c4 c5 c6 c7 c8 : Int → Int} (n1 : 0 ≤ a) (n2 : a ≤ 12) (hs : yw_so c8) (hn : yw_rn d1) :
    zh_ok (zf_X_log_l1 a t cl sc sr tS nc sP nn tL lP T gl br wc wr kd hf to K V nr zi_fu 0 h u e1 e2 e3 e4 e5 e6 e7 d1 co ro c1 c2 c3 c4 c5 c6 c7 c8) fun o => yw_so o.2.2.2.2.2.2.2.2.2.2.2.2.2.2.2.2.2.2.2 := by
  refine zh_loop (F := fun f j (b : Int × Int × Int × Int × Int × Int × Int × Int × Int × (Int → Int) × (Int → Int) × (Int → Int) × (Int → Int) × (Int → Int) × (Int → Int) × (Int → Int) × (Int → Int) × (Int → Int) × (Int → Int) × (Int → Int)) => zf_X_log_l1 a t cl sc sr tS nc sP nn tL lP T gl br wc wr kd hf to K V nr f j b.1 b.2.1 b.2.2.1 b.2.2.2.1 b.2.2.2.2.1 b.2.2.2.2.2.1 b.2.2.2.2.2.2.1 b.2.2.2.2.2.2.2.1 b.2.2.2.2.2.2.2.2.1 b.2.2.2.2.2.2.2.2.2.1 b.2.2.2.2.2.2.2.2.2.2.1 b.2.2.2.2.2.2.2.2.2.2.2.1 b.2.2.2.2.2.2.2.2.2.2.2.2.1 b.2.2.2.2.2.2.2.2.2.2.2.2.2.1 b.2.2.2.2.2.2.2.2.2.2.2.2.2.2.1 b.2.2.2.2.2.2.2.2.2.2.2.2.2.2.2.1 b.2.2.2.2.2.2.2.2.2.2.2.2.2.2.2.2.1 b.2.2.2.2.2.2.2.2.2.2.2.2.2.2.2.2.2.1 b.2.2.2.2.2.2.2.2.2.2.2.2.2.2.2.2.2.2.1 b.2.2.2.2.2.2.2.2.2.2.2.2.2.2.2.2.2.2.2) (N := a) (I := fun _ o => yw_wo t o.1 o.2.1 cl sc sr ch ts o.2.2.2.2.2.2.2.2.2.2.1 o.2.2.2.2.2.2.2.2.2.2.2.1 br wc wr gl ∧ yw_rn o.2.2.2.2.2.2.2.2.2.1 ∧ yw_so o.2.2.2.2.2.2.2.2.2.2.2.2.2.2.2.2.2.2.2) (fun f j b j0 j1 ha kk => ?_) 12 0 (h, u, e1, e2, e3, e4, e5, e6, e7, d1, co, ro, c1, c2, c3, c4, c5, c6, c7, c8) zi_fu (by omega) (by decide) n1 (by decide) ⟨w, hn, hs⟩
  obtain ⟨b1, b2, b3, b4, b5, b6, b7, b8, b9, b10, b11, b12, b13, b14, b15, b16, b17, b18, b19, b20⟩ := b
  obtain ⟨w2, a3, a4⟩ := ha
  dsimp only at w2 a3 a4
  show zh_ok (zf_X_log_l1_b a t cl sc sr tS nc sP nn tL lP T gl br wc wr kd hf to K V nr (zf_X_log_l1 a t cl sc sr tS nc sP nn tL lP T gl br wc wr kd hf to K V nr f) j b1 b2 b3 b4 b5 b6 b7 b8 b9 b10 b11 b12 b13 b14 b15 b16 b17 b18 b19 b20) _
  unfold zf_X_log_l1_b
  refine zh_ite (fun hj => ?_) fun _ => zh_ret a4
  rw [zi_w_id (x := j + 1) (by omega) (by omega), zi_w_id (x := 2 * j) (by omega) (by omega), zi_w_id (x := 2 * j + 1) (by omega) (by omega), zi_w_id (x := a - 1) (by omega) (by omega)]
  obtain ⟨gA, e0, h0⟩ := ze_open (f := b3) (g := b13)
  obtain ⟨gp, m, k, z⟩ := w2
  obtain ⟨h', u', co', ro', m', e7, -, k3, e8⟩ := yk_pass k
  have w3 : yw_wo t h' u' cl sc sr ch ts co' ro' br wc wr gl := ⟨gp, m', k3, yk_sea_fr z fun j hj => e8 j (by omega) (by omega) (by omega)⟩
  rw [e0, zl_b, ze_byteAt (by omega) (by omega), zl_b, ze_byteAt (by omega) (by omega)]
  have fin : ∀ q : Int × Int × Int × Int × Int × Int × Int × (Int → Int) × (Int → Int) × (Int → Int) × (Int → Int) × (Int → Int) × (Int → Int) × (Int → Int) × (Int → Int) × (Int → Int), yw_rn q.2.2.2.2.2.2.2.1 ∧ yw_so q.2.2.2.2.2.2.2.2.2.2.2.2.2.2.2 → zh_ok (if j < a - 1 then ((some (T (2 * j + 1))).bind fun r39 => ((zf_X_moveSpots r39 q.2.2.2.2.2.2.2.1 gl).bind fun r40 => ((zf_Sky_passHour b1 b2 b11 wc b12 wr).bind fun r41 => (zf_X_log_l1 a t cl sc sr tS nc sP nn tL lP T gl br wc wr kd hf to K V nr f (j + 1) r41.1 r41.2.1 q.1 q.2.1 q.2.2.1 q.2.2.2.1 q.2.2.2.2.1 q.2.2.2.2.2.1 q.2.2.2.2.2.2.1 r40 r41.2.2.1 r41.2.2.2 q.2.2.2.2.2.2.2.2.1 q.2.2.2.2.2.2.2.2.2.1 q.2.2.2.2.2.2.2.2.2.2.1 q.2.2.2.2.2.2.2.2.2.2.2.1 q.2.2.2.2.2.2.2.2.2.2.2.2.1 q.2.2.2.2.2.2.2.2.2.2.2.2.2.1 q.2.2.2.2.2.2.2.2.2.2.2.2.2.2.1 q.2.2.2.2.2.2.2.2.2.2.2.2.2.2.2)))) else ((zf_Sky_passHour b1 b2 b11 wc b12 wr).bind fun r38 => (zf_X_log_l1 a t cl sc sr tS nc sP nn tL lP T gl br wc wr kd hf to K V nr f (j + 1) r38.1 r38.2.1 q.1 q.2.1 q.2.2.1 q.2.2.2.1 q.2.2.2.2.1 q.2.2.2.2.2.1 q.2.2.2.2.2.2.1 q.2.2.2.2.2.2.2.1 r38.2.2.1 r38.2.2.2 q.2.2.2.2.2.2.2.2.1 q.2.2.2.2.2.2.2.2.2.1 q.2.2.2.2.2.2.2.2.2.2.1 q.2.2.2.2.2.2.2.2.2.2.2.1 q.2.2.2.2.2.2.2.2.2.2.2.2.1 q.2.2.2.2.2.2.2.2.2.2.2.2.2.1 q.2.2.2.2.2.2.2.2.2.2.2.2.2.2.1 q.2.2.2.2.2.2.2.2.2.2.2.2.2.2.2))) fun o => yw_so o.2.2.2.2.2.2.2.2.2.2.2.2.2.2.2.2.2.2.2 := fun q hq => by
    refine zh_ite (fun _ => ?_) fun _ => ?_
    · rw [zl_b]
      refine zh_bind (yw_move z hq.1) fun r40 h40 => ?_
      rw [e7, zl_b]
      exact kk (h', u', q.1, q.2.1, q.2.2.1, q.2.2.2.1, q.2.2.2.2.1, q.2.2.2.2.2.1, q.2.2.2.2.2.2.1, r40, co', ro', q.2.2.2.2.2.2.2.2.1, q.2.2.2.2.2.2.2.2.2.1, q.2.2.2.2.2.2.2.2.2.2.1, q.2.2.2.2.2.2.2.2.2.2.2.1, q.2.2.2.2.2.2.2.2.2.2.2.2.1, q.2.2.2.2.2.2.2.2.2.2.2.2.2.1, q.2.2.2.2.2.2.2.2.2.2.2.2.2.2.1, q.2.2.2.2.2.2.2.2.2.2.2.2.2.2.2) hj ⟨w3, h40, hq.2⟩
    · rw [e7, zl_b]
      exact kk (h', u', q.1, q.2.1, q.2.2.1, q.2.2.2.1, q.2.2.2.2.1, q.2.2.2.2.2.1, q.2.2.2.2.2.2.1, q.2.2.2.2.2.2.2.1, co', ro', q.2.2.2.2.2.2.2.2.1, q.2.2.2.2.2.2.2.2.2.1, q.2.2.2.2.2.2.2.2.2.2.1, q.2.2.2.2.2.2.2.2.2.2.2.1, q.2.2.2.2.2.2.2.2.2.2.2.2.1, q.2.2.2.2.2.2.2.2.2.2.2.2.2.1, q.2.2.2.2.2.2.2.2.2.2.2.2.2.2.1, q.2.2.2.2.2.2.2.2.2.2.2.2.2.2.2) hj ⟨w3, hq.1, hq.2⟩
  exact zh_ite (fun _ => zh_bind (yw_lg2X R k yv_ca0 (yv_cp0 h0) a4 a3) fin) fun _ => zh_bind (yw_lg2X R k yv_ca0 (yv_cp0 h0) a4 a3) fin
theorem yw_lay (z : yk_sea ts gp gl m) (A B : Int → Int) : ∃ A' B', zf_X_log_l0 gl zi_fu 0 A = some A' ∧ zf_M_log_l0 m zi_fu 0 B = some B' ∧ yw_rn A' ∧ yw_rn B' := by
  obtain ⟨A', B', e1, e2, h, -⟩ := yp_lay_l z 288 0 A B zi_fu (by decide) (by decide) (by decide)
  have v : ∀ i, 0 ≤ i → i < 288 → yw_rv (if yg_ld gl i = true then -1 else i) := fun i i0 i1 => by
    unfold yw_rv
    split <;> omega
  exact ⟨A', B', e1, e2, fun i i0 i1 => by rw [(h i i0 i1).1]; exact v i i0 i1, fun i i0 i1 => by rw [(h i i0 i1).2]; exact v i i0 i1⟩
theorem yw_logX (R : yl_R L K V nc tS tL sP lP kd fr hf to mc C mk mf mh mt) (k : yk_sky t h u cl sc sr ch co ro br wc wr m) (z : yk_sea ts gp gl m) (hT : yk_T T M) {a w ln n nn : Int} {f4 f6 f8 f10 f12 f14 f16 f20 f21 f22 f23 f25 f27 f34 : Int} {nr g1 g4 g6 g8 g10 g12 g13 g14 g19 g21 g22 g23 g25 g26 : Int → Int} (hs : yw_so g26) :
    zh_ok (zf_X_log a w ln n t f4 h f6 u f8 cl f10 sc f12 sr f14 ch f16 f20 f21 f22 f23 tS f25 nc f27 sP nn tL lP f34 T g1 gl co g4 ro g6 br g8 wc g10 wr g12 g13 g14 kd hf to K g19 V g21 g22 g23 nr g25 g26) fun o => o.2.1 = yw_logS a w ln n ∧ yw_so o.2.2.2.2.2.2.2.2.2.2.2.2.2.2.2.2.2.2.2.2.2.2.2.2.2.2.2.2.2 := by
  unfold zf_X_log yw_logS
  rw [ze_X_isWithin, zl_b]
  refine zh_ite (fun q => zh_ret ⟨(if_pos q).symm, hs⟩) fun q1 => ?_
  rw [if_neg q1, ze_X_isWithin, zl_b]
  refine zh_ite (fun q => zh_ret ⟨(if_pos q).symm, hs⟩) fun q2 => ?_
  rw [if_neg q2]
  refine zh_ite (fun q => zh_ret ⟨(if_pos q).symm, hs⟩) fun q3 => ?_
  rw [if_neg q3]
  obtain ⟨n1, n2⟩ := zs_in_ne q1
  rw [zi_w_id (x := 2 * a) (by omega) (by omega)]
  unfold zf_Tape_take
  by_cases q4 : n < 2 * a
  · rw [if_pos q4, if_pos q4, zl_b, if_pos rfl]
    exact zh_ret ⟨rfl, hs⟩
  rw [if_neg q4, if_neg q4, zl_b, if_neg (show ¬ (1 : Int) = 0 by decide)]
  have hb : zh_ok (zf_X_isLogBytes a T) fun _ => True := by
    rcases yl_bytes (n := a) hT (by omega) n2 (A := T) (B := T) with ⟨A', B', e, -⟩ | ⟨A', B', e, -⟩
    · exact zh_t e
    · exact zh_t e
  refine zh_bind hb fun r12 _ => zh_ite (fun _ => zh_ret ⟨rfl, hs⟩) fun _ => ?_
  obtain ⟨A', -, e1, -, hA, -⟩ := yw_lay z g1 g1
  rw [e1, zl_b]
  unfold zf_Sky_copyFrom
  rw [zl_b]
  dsimp only
  have w2 : yw_wo t h u cl sc sr ch ts (zv_cpy co g4 24) (zv_cpy ro g6 24) (zv_cpy br g8 24) (zv_cpy wc g10 24) (zv_cpy wr g12 24) gl := ⟨gp, m, yk_sky_cg k (fun j j1 j2 => zv_cpy_in j2) (fun j j1 j2 => zv_cpy_in j2) (fun j j1 j2 => zv_cpy_in j2) (fun j j1 j2 => zv_cpy_in j2) (fun j j1 j2 => zv_cpy_in j2) (fun _ _ _ => rfl), z⟩
  refine zh_bind (yw_lg1X R w2 hT (by omega) n2 hs hA) fun q42 h42 => ?_
  have cf : ∀ B : Int → Int, ∃ c f, zf_X_countSpots B = some c ∧ zf_X_firstSpot B = some f := fun B => by
    obtain ⟨c, f, e2, e3, -⟩ := yp_count (A := B) (B := B) fun _ _ _ => rfl
    exact ⟨c, f, e2, e3⟩
  obtain ⟨c, f, e2, e3⟩ := cf q42.2.2.2.2.2.2.2.2.2.1
  rw [e2, e3, zl_b, zl_b]
  exact zh_ite (fun _ => zh_ret ⟨rfl, h42⟩) fun _ => zh_ret ⟨rfl, h42⟩
end YWG
end
section
/-! log in the reference: it answers; now is restored, the tape taken alike. -/
section YWGM
variable {L : zLW} {K V kd fr hf to C mk mf mh mt T M tf tt : Int → Int} {nc tS tL sP lP mc : Int} {t h u cl sc sr ch ts p i ln nn : Int} {co ro br wc wr m gp gl nr : Int → Int}
theorem yw_lg2M (R : yl_R L K V nc tS tL sP lP kd fr hf to mc C mk mf mh mt) (k : yk_sky t h u cl sc sr ch co ro br wc wr m) (z : yk_sea ts gp gl m) (tl : yk_tl ln nn nr tf tt) (hln : ln ≠ 0) {a x3 f3 f4 : Int} {A B sp d1 d2 d3 d4 d5 d6 : Int → Int} (i0 : 0 ≤ x3) (i1 : x3 < 12) (hn : yw_rn sp) :
    zh_ok (zf_M_log_l2 a x3 ln mc nn A B m mk mh mt C tf tt zi_fu 0 f3 f4 sp d1 d2 d3 d4 d5 d6) fun o => yw_rn o.2.2.1 := by
  refine zh_loop (F := fun f j (b : Int × Int × (Int → Int) × (Int → Int) × (Int → Int) × (Int → Int) × (Int → Int) × (Int → Int) × (Int → Int)) => zf_M_log_l2 a x3 ln mc nn A B m mk mh mt C tf tt f j b.1 b.2.1 b.2.2.1 b.2.2.2.1 b.2.2.2.2.1 b.2.2.2.2.2.1 b.2.2.2.2.2.2.1 b.2.2.2.2.2.2.2.1 b.2.2.2.2.2.2.2.2) (N := 288) (I := fun _ o => yw_rn o.2.2.1) (fun f j b j0 j1 ha kk => ?_) 288 0 (f3, f4, sp, d1, d2, d3, d4, d5, d6) zi_fu (by decide) (by decide) (by decide) (by decide) hn
  obtain ⟨b1, b2, b3, b4, b5, b6, b7, b8, b9⟩ := b
  dsimp only at ha
  show zh_ok (zf_M_log_l2_b a x3 ln mc nn A B m mk mh mt C tf tt (zf_M_log_l2 a x3 ln mc nn A B m mk mh mt C tf tt f) j b1 b2 b3 b4 b5 b6 b7 b8 b9) _
  unfold zf_M_log_l2_b
  refine zh_ite (fun hj => ?_) fun _ => zh_ret ha
  rw [zi_w_id (x := j + 1) (by omega) (by omega), zi_w_id (x := x3 + 1) (by omega) (by omega)]
  have k2 : ∀ c1 c2 c3 c4 c5 c6 c7 c8 c9, yw_rn c3 → zh_ok (zf_M_log_l2 a x3 ln mc nn A B m mk mh mt C tf tt f (j + 1) c1 c2 c3 c4 c5 c6 c7 c8 c9) _ := fun c1 c2 c3 c4 c5 c6 c7 c8 c9 p1 => kk (c1, c2, c3, c4, c5, c6, c7, c8, c9) hj p1
  refine zh_cond (zi_ix_of j0 hj) (zh_ite (fun _ => k2 _ _ _ _ _ _ _ _ _ ha) fun hne => ?_)
  obtain ⟨v0, v1⟩ := (ha j j0 hj).resolve_left hne
  refine zh_bind (yw_cbtM R k tl hln v0 v1) fun r _ => zh_cond (zi_ix_of i0 i1) ?_
  have mv : ∀ v, yw_rv v → ∀ c1 c2 c3 c4 c5 c6 c7 c8, zh_ok (if (zv_up b3 j v) j = -1 then zf_M_log_l2 a x3 ln mc nn A B m mk mh mt C tf tt f (j + 1) c1 c2 (zv_up b3 j v) c3 c4 c5 c6 c7 c8 else ((zf_M_isLand ((zv_up b3 j v) j) m).bind fun q => (if q = 0 then zf_M_log_l2 a x3 ln mc nn A B m mk mh mt C tf tt f (j + 1) c1 c2 (zv_up b3 j v) c3 c4 c5 c6 c7 c8 else zf_M_log_l2 a x3 ln mc nn A B m mk mh mt C tf tt f (j + 1) c1 c2 (zv_up (zv_up b3 j v) j (-1)) c3 c4 c5 c6 c7 c8))) fun o => yw_rn o.2.2.1 := fun v hv c1 c2 c3 c4 c5 c6 c7 c8 => by
    refine zh_ite (fun _ => k2 _ _ _ _ _ _ _ _ _ (yw_rn_u ha hv)) fun q => ?_
    rw [zv_up_s] at q ⊢
    obtain ⟨w0, w1⟩ := hv.resolve_left q
    rw [ze_isLandM z w0 w1, zl_b]
    exact zh_ite (fun _ => k2 _ _ _ _ _ _ _ _ _ (yw_rn_u ha hv)) fun _ => k2 _ _ _ _ _ _ _ _ _ (yw_rn_u (yw_rn_u ha hv) (Or.inl rfl))
  have ls : ∀ c1 c2 c3 c4 c5 c6 c7 c8, zh_ok ((zf_M_isLand (b3 j) m).bind fun q => (if q = 0 then zf_M_log_l2 a x3 ln mc nn A B m mk mh mt C tf tt f (j + 1) c1 c2 b3 c3 c4 c5 c6 c7 c8 else zf_M_log_l2 a x3 ln mc nn A B m mk mh mt C tf tt f (j + 1) c1 c2 (zv_up b3 j (-1)) c3 c4 c5 c6 c7 c8)) fun o => yw_rn o.2.2.1 := fun c1 c2 c3 c4 c5 c6 c7 c8 => by
    rw [ze_isLandM z v0 v1, zl_b]
    exact zh_ite (fun _ => k2 _ _ _ _ _ _ _ _ _ ha) fun _ => k2 _ _ _ _ _ _ _ _ _ (yw_rn_u ha (Or.inl rfl))
  rw [ze_goesTo v0 v1, zl_b]
  exact zh_ite (fun _ => zh_ite (fun _ => zh_ite (fun _ => mv _ (yw_go_rv v0 v1) _ _ _ _ _ _ _ _) fun _ => ls _ _ _ _ _ _ _ _) fun _ => mv _ (Or.inl rfl) _ _ _ _ _ _ _ _) fun _ => zh_ite (fun _ => zh_ite (fun _ => mv _ (yw_go_rv v0 v1) _ _ _ _ _ _ _ _) fun _ => ls _ _ _ _ _ _ _ _) fun _ => mv _ (Or.inl rfl) _ _ _ _ _ _ _ _
theorem yw_lg1M (R : yl_R L K V nc tS tL sP lP kd fr hf to mc C mk mf mh mt) (hm : yw_mo t cl sc sr ch ts br wc wr gl m) (tl : yk_tl ln nn nr tf tt) (hln : ln ≠ 0) {a f3 f4 : Int} {A B sp d1 d2 d3 d4 d5 d6 : Int → Int} (n0 : 0 ≤ a) (n1 : a ≤ 12) (hn : yw_rn sp) :
    zh_ok (zf_M_log_l1 a ln mc nn A B mk mh mt C tf tt zi_fu 0 f3 f4 sp m d1 d2 d3 d4 d5 d6) fun _ => True := by
  refine zh_loop (F := fun f j (b : Int × Int × (Int → Int) × (Int → Int) × (Int → Int) × (Int → Int) × (Int → Int) × (Int → Int) × (Int → Int) × (Int → Int)) => zf_M_log_l1 a ln mc nn A B mk mh mt C tf tt f j b.1 b.2.1 b.2.2.1 b.2.2.2.1 b.2.2.2.2.1 b.2.2.2.2.2.1 b.2.2.2.2.2.2.1 b.2.2.2.2.2.2.2.1 b.2.2.2.2.2.2.2.2.1 b.2.2.2.2.2.2.2.2.2) (N := a) (I := fun _ o => yw_rn o.2.2.1 ∧ yw_mo t cl sc sr ch ts br wc wr gl o.2.2.2.1) (fun f j b j0 j1 ha kk => ?_) 12 0 (f3, f4, sp, m, d1, d2, d3, d4, d5, d6) zi_fu (by omega) (by decide) n0 (by decide) ⟨hn, hm⟩
  obtain ⟨b1, b2, b3, b4, b5, b6, b7, b8, b9, b10⟩ := b
  obtain ⟨ha, hm2⟩ := ha
  dsimp only at ha hm2
  show zh_ok (zf_M_log_l1_b a ln mc nn A B mk mh mt C tf tt (zf_M_log_l1 a ln mc nn A B mk mh mt C tf tt f) j b1 b2 b3 b4 b5 b6 b7 b8 b9 b10) _
  unfold zf_M_log_l1_b
  refine zh_ite (fun hj => ?_) fun _ => zh_ret trivial
  rw [zi_w_id (x := j + 1) (by omega) (by omega)]
  obtain ⟨h, u, co, ro, gp, k, z⟩ := hm2
  obtain ⟨h', u', co', ro', m', -, e7, k3, e8⟩ := yk_pass k
  refine zh_bind (yw_lg2M R k z tl hln j0 (by omega) ha) fun q hq => ?_
  rw [e7, zl_b]
  exact kk (q.1, q.2.1, q.2.2.1, m', q.2.2.2.1, q.2.2.2.2.1, q.2.2.2.2.2.1, q.2.2.2.2.2.2.1, q.2.2.2.2.2.2.2.1, q.2.2.2.2.2.2.2.2) hj ⟨hq, h', u', co', ro', gp, k3, yk_sea_fr z fun j hj => e8 j (by omega) (by omega) (by omega)⟩
theorem yw_logM (R : yl_R L K V nc tS tL sP lP kd fr hf to mc C mk mf mh mt) (k : yk_sky t h u cl sc sr ch co ro br wc wr m) (z : yk_sea ts gp gl m) (hT : yk_T T M) (tl : yk_tl ln nn nr tf tt) {a w n f3 f4 : Int} {A B sp aA g S d1 d2 d3 d4 : Int → Int} :
    zh_ok (zf_M_log a w ln n mc f3 f4 nn A M B sp m aA mk g mh mt C S d1 d2 d3 tf tt d4) fun o => o.2.1 = yw_logS a w ln n ∧ ∀ j, 0 ≤ j → j < 422 → o.2.2.2.2.2.2.2.1 j = m j := by
  unfold zf_M_log yw_logS
  rw [ze_M_in, zl_b]
  refine zh_ite (fun q => zh_ret ⟨(if_pos q).symm, fun _ _ _ => rfl⟩) fun q1 => ?_
  rw [if_neg q1, ze_M_in, zl_b]
  refine zh_ite (fun q => zh_ret ⟨(if_pos q).symm, fun _ _ _ => rfl⟩) fun q2 => ?_
  rw [if_neg q2]
  refine zh_ite (fun q => zh_ret ⟨(if_pos q).symm, fun _ _ _ => rfl⟩) fun q3 => ?_
  rw [if_neg q3]
  obtain ⟨n1, n2⟩ := zs_in_ne q1
  rw [zi_w_id (x := 2 * a) (by omega) (by omega)]
  refine zh_ite (fun q => zh_ret ⟨(if_pos q).symm, fun _ _ _ => rfl⟩) fun q4 => ?_
  rw [if_neg q4]
  have hb : zh_ok (zf_M_takesLog a A M B) fun _ => True := by
    rcases yl_bytes (n := a) hT (by omega) n2 (A := A) (B := B) with ⟨A', B', -, e, -⟩ | ⟨A', B', -, e⟩
    · exact zh_t e
    · exact zh_t e
  refine zh_bind hb fun r7 _ => zh_ite (fun _ => zh_ret ⟨rfl, fun _ _ _ => rfl⟩) fun _ => ?_
  obtain ⟨-, B', -, e2, -, hB⟩ := yw_lay z sp sp
  obtain ⟨mA, e3, hA⟩ := ze_begins (g0 := m) (g := aA)
  rw [e2, zl_b, e3, zl_b]
  refine zh_bind (yw_lg1M R ⟨h, u, co, ro, gp, k, z⟩ tl q3 (by omega) n2 hB) fun q49 _ => ?_
  obtain ⟨m3, e4, h4⟩ := ze_again (g0 := mA) (g := q49.2.2.2.1)
  rw [e4, zl_b]
  obtain ⟨c, f, -, -, e5⟩ := yp_count (A := q49.2.2.1) (B := q49.2.2.1) fun _ _ _ => rfl
  rw [e5, zl_b]
  have h5 : ∀ j, 0 ≤ j → j < 422 → m3 j = m j := fun j j0 j1 => by rw [h4 j j0 j1, hA j j0 j1]
  exact zh_ite (fun _ => zh_ret ⟨rfl, h5⟩) fun _ => zh_ret ⟨rfl, h5⟩
end YWGM
end
section
/-! fastest: both sides answer the same. -/
section YLG
variable {L : zLW} {K V kd fr hf to C mk mf mh mt : Int → Int} {nc tS tL sP lP mc : Int} {t h u cl sc sr ch ts p i s : Int} {co ro br wc wr m gp gl : Int → Int} {hs us : Nat → Int} {cs rs : Nat → Int → Int}
/-- the place an hour on -/
def yw_nx (L : zLW) (tS cl sc sr h u : Int) (co ro br gl : Int → Int) (p i : Int) : Int := if yv_see L tS h u cl sc sr co ro br (p % 24) (p / 24) i = true then yg_st gl p (yg_tr (p % 24) (yv_st h co i)) (ro i - p / 24) else p
/-- the skies of the hours that come -/
def yw_sq (t h u cl sc sr ch ts : Int) (co ro br wc wr gl : Int → Int) (hs us : Nat → Int) (cs rs : Nat → Int → Int) : Prop :=
  (hs 0 = h ∧ us 0 = u ∧ cs 0 = co ∧ rs 0 = ro) ∧ ∀ k, zf_Sky_passHour (hs k) (us k) (cs k) wc (rs k) wr = some (hs (k + 1), us (k + 1), cs (k + 1), rs (k + 1)) ∧ yw_wo t (hs k) (us k) cl sc sr ch ts (cs k) (rs k) br wc wr gl
theorem yw_sq_ex (w : yw_wo t h u cl sc sr ch ts co ro br wc wr gl) : ∃ hs us cs rs, yw_sq t h u cl sc sr ch ts co ro br wc wr gl hs us cs rs := by
  have nx : ∀ q : {q : Int × Int × (Int → Int) × (Int → Int) // yw_wo t q.1 q.2.1 cl sc sr ch ts q.2.2.1 q.2.2.2 br wc wr gl}, ∃ q2 : {q : Int × Int × (Int → Int) × (Int → Int) // yw_wo t q.1 q.2.1 cl sc sr ch ts q.2.2.1 q.2.2.2 br wc wr gl}, zf_Sky_passHour q.1.1 q.1.2.1 q.1.2.2.1 wc q.1.2.2.2 wr = some q2.1 := fun q => by
    obtain ⟨gp, m, k, z⟩ := q.2
    obtain ⟨h', u', co', ro', m', e2, -, k3, e4⟩ := yk_pass k
    exact ⟨⟨(h', u', co', ro'), gp, m', k3, yk_sea_fr z fun j hj => e4 j (by omega) (by omega) (by omega)⟩, e2⟩
  obtain ⟨F, hF⟩ := Classical.axiomOfChoice nx
  refine ⟨fun k => (Nat.rec (motive := fun _ => {q : Int × Int × (Int → Int) × (Int → Int) // yw_wo t q.1 q.2.1 cl sc sr ch ts q.2.2.1 q.2.2.2 br wc wr gl}) ⟨(h, u, co, ro), w⟩ (fun _ q => F q) k).1.1, fun k => (Nat.rec (motive := fun _ => {q : Int × Int × (Int → Int) × (Int → Int) // yw_wo t q.1 q.2.1 cl sc sr ch ts q.2.2.1 q.2.2.2 br wc wr gl}) ⟨(h, u, co, ro), w⟩ (fun _ q => F q) k).1.2.1, fun k => (Nat.rec (motive := fun _ => {q : Int × Int × (Int → Int) × (Int → Int) // yw_wo t q.1 q.2.1 cl sc sr ch ts q.2.2.1 q.2.2.2 br wc wr gl}) ⟨(h, u, co, ro), w⟩ (fun _ q => F q) k).1.2.2.1, fun k => (Nat.rec (motive := fun _ => {q : Int × Int × (Int → Int) × (Int → Int) // yw_wo t q.1 q.2.1 cl sc sr ch ts q.2.2.1 q.2.2.2 br wc wr gl}) ⟨(h, u, co, ro), w⟩ (fun _ q => F q) k).1.2.2.2, ⟨rfl, rfl, rfl, rfl⟩, fun k => ⟨hF _, (Nat.rec (motive := fun _ => {q : Int × Int × (Int → Int) × (Int → Int) // yw_wo t q.1 q.2.1 cl sc sr ch ts q.2.2.1 q.2.2.2 br wc wr gl}) ⟨(h, u, co, ro), w⟩ (fun _ q => F q) k).2⟩⟩
def yw_pos (L : zLW) (tS cl sc sr : Int) (hs us : Nat → Int) (cs rs : Nat → Int → Int) (br gl : Int → Int) (p0 i : Int) : Nat → Int
  | 0 => p0
  | k + 1 => yw_nx L tS cl sc sr (hs k) (us k) (cs k) (rs k) br gl (yw_pos L tS cl sc sr hs us cs rs br gl p0 i k) i
theorem yw_nx_in (w : yw_wo t h u cl sc sr ch ts co ro br wc wr gl) (p1 : 0 ≤ p) (p2 : p < 288) (i1 : 0 ≤ i) (i2 : i < 24) : 0 ≤ yw_nx L tS cl sc sr h u co ro br gl p i ∧ yw_nx L tS cl sc sr h u co ro br gl p i < 288 := by
  obtain ⟨gp, m, ⟨-, -, -, -, -, -, -, ki⟩, -⟩ := w
  obtain ⟨⟨-, ⟨r1, r2⟩, -⟩, -, -⟩ := ki i i1 i2
  unfold yw_nx
  split
  · exact yg_st_in p1 p2 (by omega) (by omega)
  · exact ⟨p1, p2⟩
theorem yw_pos_in (q : yw_sq t h u cl sc sr ch ts co ro br wc wr gl hs us cs rs) (p1 : 0 ≤ p) (p2 : p < 288) (i1 : 0 ≤ i) (i2 : i < 24) : ∀ k, 0 ≤ yw_pos L tS cl sc sr hs us cs rs br gl p i k ∧ yw_pos L tS cl sc sr hs us cs rs br gl p i k < 288
  | 0 => ⟨p1, p2⟩
  | k + 1 => by
    obtain ⟨a, b⟩ := yw_pos_in q p1 p2 i1 i2 k
    exact yw_nx_in (q.2 k).2 a b i1 i2
theorem yw_stepE (R : yl_R L K V nc tS tL sP lP kd fr hf to mc C mk mf mh mt) (w : yw_wo t h u cl sc sr ch ts co ro br wc wr gl) (p1 : 0 ≤ p) (p2 : p < 288) (i1 : 0 ≤ i) (i2 : i < 24) (hti : zb t i.toNat = true) {f2 f3 as ho f14 : Int} {g S : Int → Int} (hc : yv_ca L sP h u co ro br as ho) :
    zh_ok (zf_Pilot_step p i f2 f3 h u t sc sr cl tS as ho nc f14 sP g co ro br kd hf to K S V gl) fun o => o.1 = yw_nx L tS cl sc sr h u co ro br gl p i ∧ yv_ca L sP h u co ro br o.2.2.2.1 o.2.2.2.2.1 := by
  obtain ⟨gp, m, k, z⟩ := w
  obtain ⟨as', ho', a', g', S', e, hc'⟩ := yx_step (f2 := f2) (f3 := f3) (f14 := f14) (g := g) (S := S) R k z p1 p2 i1 i2 hti hc
  exact ⟨_, e, rfl, hc'⟩
/-- all first legs, an hour on -/
theorem yw_sflE (R : yl_R L K V nc tS tL sP lP kd fr hf to mc C mk mf mh mt) (w : yw_wo t h u cl sc sr ch ts co ro br wc wr gl) {x y as ho a : Int} {G g S : Int → Int} (hc : yv_ca L sP h u co ro br as ho) (hG : ∀ i, 0 ≤ i → i < 24 → zb t i.toNat = true → 0 ≤ G i ∧ G i < 288) :
    zh_ok (zf_Pilot_stepFirstLegs t x y h u sc sr cl tS as ho nc a sP G g co ro br kd hf to K S V gl) fun o => yv_ca L sP h u co ro br o.2.2.1 o.2.2.2.1 ∧ ∀ i, 0 ≤ i → i < 24 → zb t i.toNat = true → o.2.2.2.2.2.1 i = yw_nx L tS cl sc sr h u co ro br gl (G i) i := by
  have tin : 0 ≤ t ∧ t ≤ 2147483647 := by obtain ⟨gp, m, ⟨⟨ht, -⟩, -⟩, -⟩ := w; exact ⟨ht.1, by have := ht.2; omega⟩
  unfold zf_Pilot_stepFirstLegs
  refine zh_bind (Q := fun o => yv_ca L sP h u co ro br o.2.2.1 o.2.2.2.1 ∧ ∀ i, 0 ≤ i → i < 24 → zb t i.toNat = true → o.2.2.2.2.2.1 i = yw_nx L tS cl sc sr h u co ro br gl (G i) i) (zh_loop (F := fun f j (b : Int × Int × Int × Int × Int × (Int → Int) × (Int → Int) × (Int → Int)) => zf_Pilot_stepFirstLegs_l0 t h u sc sr cl tS nc sP co ro br kd hf to K V gl f j b.1 b.2.1 b.2.2.1 b.2.2.2.1 b.2.2.2.2.1 b.2.2.2.2.2.1 b.2.2.2.2.2.2.1 b.2.2.2.2.2.2.2) (N := 24) (I := fun j o => yv_ca L sP h u co ro br o.2.2.1 o.2.2.2.1 ∧ (∀ i, 0 ≤ i → i < j → zb t i.toNat = true → o.2.2.2.2.2.1 i = yw_nx L tS cl sc sr h u co ro br gl (G i) i) ∧ ∀ i, j ≤ i → o.2.2.2.2.2.1 i = G i) (fun f j b j0 j1 ha kk => ?_) 24 0 (x, y, as, ho, a, G, g, S) zi_fu (by decide) (by decide) (by decide) (by decide) ⟨hc, fun i i0 i1 => by omega, fun _ _ => rfl⟩) fun q hq => zh_ret hq
  obtain ⟨b1, b2, b3, b4, b5, b6, b7, b8⟩ := b
  obtain ⟨a1, a2, a3⟩ := ha
  dsimp only at a1 a2 a3
  show zh_ok (zf_Pilot_stepFirstLegs_l0_b t h u sc sr cl tS nc sP co ro br kd hf to K V gl (zf_Pilot_stepFirstLegs_l0 t h u sc sr cl tS nc sP co ro br kd hf to K V gl f) j b1 b2 b3 b4 b5 b6 b7 b8) _
  unfold zf_Pilot_stepFirstLegs_l0_b
  refine zh_ite (fun hj => ?_) fun hj => zh_ret ⟨a1, fun i i0 i1 ht => a2 i i0 (by omega) ht⟩
  rw [ze_Sky_hasStar tin.1 tin.2, zl_b, zi_w_id (x := j + 1) (by omega) (by omega)]
  have k2 : ∀ c1 c2 c3 c4 c5 c6 c7 c8, yv_ca L sP h u co ro br c3 c4 → (∀ i, 0 ≤ i → i < j + 1 → zb t i.toNat = true → c6 i = yw_nx L tS cl sc sr h u co ro br gl (G i) i) → (∀ i, j + 1 ≤ i → c6 i = G i) → zh_ok (zf_Pilot_stepFirstLegs_l0 t h u sc sr cl tS nc sP co ro br kd hf to K V gl f (j + 1) c1 c2 c3 c4 c5 c6 c7 c8) _ := fun c1 c2 c3 c4 c5 c6 c7 c8 q1 q2 q3 => kk (c1, c2, c3, c4, c5, c6, c7, c8) hj ⟨q1, q2, q3⟩
  refine zh_ite (fun q => k2 _ _ _ _ _ _ _ _ a1 (fun i i0 i1 ht => ?_) fun i i1 => a3 i (by omega)) fun q => ?_
  · by_cases e : i = j
    · subst e
      have : zs_has 24 t i = 1 := by
        unfold zs_has
        rw [if_pos ⟨i0, hj, by rw [zb_tb2 tin.1 tin.2]; exact ht⟩]
      rw [this] at q
      exact absurd q (by decide)
    · exact a2 i i0 (by omega) ht
  · have hti := yw_hs tin.1 tin.2 q
    have hp := hG j j0 hj hti
    have ej := a3 j (Int.le_refl j)
    rw [ej]
    refine zh_cond (zi_ix_of j0 hj) (zh_bind (yw_stepE R w hp.1 hp.2 j0 hj hti a1) fun r5 h5 => k2 _ _ _ _ _ _ _ _ h5.2 (fun i i0 i1 ht => ?_) fun i i1 => ?_)
    · by_cases e : i = j
      · subst e; rw [zv_up_s]; exact h5.1
      · rw [zv_up_n e]; exact a2 i i0 (by omega) ht
    · rw [zv_up_n (by omega)]; exact a3 i (by omega)
end YLG
end
section
/-! fastest in the class: the first hour, the first star. -/
section YLF
variable {L : zLW} {K V kd fr hf to C mk mf mh mt : Int → Int} {nc tS tL sP lP mc : Int} {t h u cl sc sr ch ts p i s : Int} {co ro br wc wr m gp gl : Int → Int} {hs us : Nat → Int} {cs rs : Nat → Int → Int}
def yw_hit (t : Int) (P : Int → Nat → Int) (pl : Int) (n k : Nat) (i : Int) : Prop := (1 ≤ k ∧ k ≤ n) ∧ (0 ≤ i ∧ i < 24 ∧ zb t i.toNat = true ∧ P i k = pl) ∧ (∀ j, 0 ≤ j → j < i → zb t j.toNat = true → P j k ≠ pl) ∧ ∀ l j, 1 ≤ l → l < k → 0 ≤ j → j < 24 → zb t j.toNat = true → P j l ≠ pl
def yw_noh (t : Int) (P : Int → Nat → Int) (pl : Int) (n : Nat) : Prop := ∀ l j, 1 ≤ l → l ≤ n → 0 ≤ j → j < 24 → zb t j.toNat = true → P j l ≠ pl
theorem yw_turnE (q : yw_sq t h u cl sc sr ch ts co ro br wc wr gl hs us cs rs) {k : Nat} {as : Int} {g : Int → Int} : ∃ g', zf_Pilot_turnOnward (hs k) (us k) as (cs k) wc (rs k) wr g = some (hs (k + 1), us (k + 1), 0, cs (k + 1), rs (k + 1), g') := by
  obtain ⟨g', e5, -⟩ := ze_open (f := as) (g := g)
  refine ⟨g', ?_⟩
  unfold zf_Pilot_turnOnward
  rw [(q.2 k).1, zl_b, e5, zl_b]
theorem yw_l1E {x4 x7 : Int} (h1 : 0 ≤ t) (h2 : t ≤ 2147483647) {f3 f4 f5 f6 f11 f12 f14 : Int} {g0 g1 g2 g3 g9 g14 : Int → Int} :
    zh_ok (zf_Pilot_findFastest_l1 x4 x7 t f3 f4 f5 f6 f11 f12 f14 g0 g1 g2 g3 g9 g14 zi_fu 0) fun o => match o with
      | .inl _ => ∀ i, 0 ≤ i → i < 24 → zb t i.toNat = true → g0 i ≠ x4
      | .inr b => b.1 = 1 ∧ b.2.2.2.2.2.2.2.2.1 = x7 ∧ ∃ i, (0 ≤ i ∧ i < 24 ∧ zb t i.toNat = true ∧ g0 i = x4) ∧ (∀ j, 0 ≤ j → j < i → zb t j.toNat = true → g0 j ≠ x4) ∧ b.2.2.2.2.2.2.2.2.2.1 = i := by
  refine zh_loop (F := fun f j (_ : Unit) => zf_Pilot_findFastest_l1 x4 x7 t f3 f4 f5 f6 f11 f12 f14 g0 g1 g2 g3 g9 g14 f j) (N := 24) (I := fun j _ => ∀ i, 0 ≤ i → i < j → zb t i.toNat = true → g0 i ≠ x4) (fun f j b j0 j1 ha kk => ?_) 24 0 () zi_fu (by decide) (by decide) (by decide) (by decide) (fun i i0 i1 => by omega)
  show zh_ok (zf_Pilot_findFastest_l1_b x4 x7 t f3 f4 f5 f6 f11 f12 f14 g0 g1 g2 g3 g9 g14 (zf_Pilot_findFastest_l1 x4 x7 t f3 f4 f5 f6 f11 f12 f14 g0 g1 g2 g3 g9 g14 f) j) _
  unfold zf_Pilot_findFastest_l1_b
  refine zh_ite (fun hj => ?_) fun hj => zh_ret fun i i0 i1 ht => ha i i0 (by omega) ht
  rw [ze_Sky_hasStar h1 h2, zl_b, zi_w_id (x := j + 1) (by omega) (by omega)]
  refine zh_ite (fun q => kk () hj fun i i0 i1 ht => ?_) fun q => zh_cond (zi_ix_of j0 hj) (zh_ite (fun e => zh_ret ⟨rfl, rfl, j, ⟨j0, hj, yw_hs h1 h2 q, e⟩, ha, rfl⟩) fun e => kk () hj fun i i0 i1 ht => ?_)
  · by_cases e : i = j
    · subst e
      have : zs_has 24 t i = 1 := by
        unfold zs_has
        rw [if_pos ⟨i0, hj, by rw [zb_tb2 h1 h2]; exact ht⟩]
      rw [this] at q
      exact absurd q (by decide)
    · exact ha i i0 (by omega) ht
  · by_cases e2 : i = j
    · subst e2; exact e
    · exact ha i i0 (by omega) ht
theorem yw_findFE (R : yl_R L K V nc tS tL sP lP kd fr hf to mc C mk mf mh mt) (q : yw_sq t h u cl sc sr ch ts co ro br wc wr gl hs us cs rs) {x3 x4 x5 x y as ho a f16 f17 : Int} {G g S A : Int → Int} (hc : yv_ca L sP h u co ro br as ho) (q3 : 0 ≤ x3) (q4 : x3 < 288) (q5 : 0 ≤ x5) (q6 : x5 ≤ 48) (hne : x3 ≠ x4) :
    zh_ok (zf_Pilot_findFastest x3 x4 x5 t x y h u sc sr cl tS as ho nc a sP f16 f17 G g co ro br kd hf to K S V gl wc wr A) fun o => (o.1 = 1 ∧ ∃ (k : Nat) (i : Int), yw_hit t (fun i => yw_pos L tS cl sc sr hs us cs rs br gl x3 i) x4 x5.toNat k i ∧ o.2.2.2.2.2.2.2.2.1 = k ∧ o.2.2.2.2.2.2.2.2.2.1 = i) ∨ (o.1 = 0 ∧ yw_noh t (fun i => yw_pos L tS cl sc sr hs us cs rs br gl x3 i) x4 x5.toNat) := by
  have w : yw_wo t h u cl sc sr ch ts co ro br wc wr gl := by
    obtain ⟨⟨rfl, rfl, rfl, rfl⟩, q2⟩ := q
    exact (q2 0).2
  have tin : 0 ≤ t ∧ t ≤ 2147483647 := by obtain ⟨gp, m, ⟨⟨ht, -⟩, -⟩, -⟩ := w; exact ⟨ht.1, by have := ht.2; omega⟩
  unfold zf_Pilot_findFastest
  rw [if_neg hne]
  obtain ⟨G2, e1, hG⟩ := ze_fill24 (v := x3) (g := G)
  rw [e1, zl_b]
  refine zh_sum (Q := fun o => match o with
    | .inl _ => yw_noh t (fun i => yw_pos L tS cl sc sr hs us cs rs br gl x3 i) x4 x5.toNat
    | .inr o => o.1 = 1 ∧ ∃ (k : Nat) (i : Int), yw_hit t (fun i => yw_pos L tS cl sc sr hs us cs rs br gl x3 i) x4 x5.toNat k i ∧ o.2.2.2.2.2.2.2.2.1 = k ∧ o.2.2.2.2.2.2.2.2.2.1 = i) (zh_loop (F := fun f j (b : Int × Int × Int × Int × Int × Int × Int × (Int → Int) × (Int → Int) × (Int → Int) × (Int → Int) × (Int → Int) × (Int → Int)) => zf_Pilot_findFastest_l0 x4 x5 t sc sr cl tS nc sP br kd hf to K V gl wc wr f j b.1 b.2.1 b.2.2.1 b.2.2.2.1 b.2.2.2.2.1 b.2.2.2.2.2.1 b.2.2.2.2.2.2.1 b.2.2.2.2.2.2.2.1 b.2.2.2.2.2.2.2.2.1 b.2.2.2.2.2.2.2.2.2.1 b.2.2.2.2.2.2.2.2.2.2.1 b.2.2.2.2.2.2.2.2.2.2.2.1 b.2.2.2.2.2.2.2.2.2.2.2.2) (N := x5 + 1) (I := fun j o => ∃ k : Nat, j = k + 1 ∧ (o.2.2.1 = hs k ∧ o.2.2.2.1 = us k ∧ o.2.2.2.2.2.2.2.2.2.1 = cs k ∧ o.2.2.2.2.2.2.2.2.2.2.1 = rs k) ∧ yv_ca L sP (hs k) (us k) (cs k) (rs k) br o.2.2.2.2.1 o.2.2.2.2.2.1 ∧ (∀ i, 0 ≤ i → i < 24 → zb t i.toNat = true → o.2.2.2.2.2.2.2.1 i = yw_pos L tS cl sc sr hs us cs rs br gl x3 i k) ∧ yw_noh t (fun i => yw_pos L tS cl sc sr hs us cs rs br gl x3 i) x4 k) (fun f j b j0 j1 ha kk => ?_) 49 1 (x, y, h, u, as, ho, a, G2, g, co, ro, S, A) zi_fu (by omega) (by decide) (by omega) (by decide) ⟨0, rfl, ⟨q.1.1.symm, q.1.2.1.symm, q.1.2.2.1.symm, q.1.2.2.2.symm⟩, by rw [q.1.1, q.1.2.1, q.1.2.2.1, q.1.2.2.2]; exact hc, fun i i0 i1 _ => hG i i0 i1, fun l j l1 l2 => by omega⟩) (fun _ hq => zh_ret (.inr ⟨rfl, hq⟩)) fun _ hq => zh_ret (.inl hq)
  obtain ⟨b1, b2, b3, b4, b5, b6, b7, b8, b9, b10, b11, b12, b13⟩ := b
  obtain ⟨k, ek, ⟨rfl, rfl, rfl, rfl⟩, c2, hp, hn⟩ := ha
  dsimp only at c2 hp
  show zh_ok (zf_Pilot_findFastest_l0_b x4 x5 t sc sr cl tS nc sP br kd hf to K V gl wc wr (zf_Pilot_findFastest_l0 x4 x5 t sc sr cl tS nc sP br kd hf to K V gl wc wr f) j b1 b2 (hs k) (us k) b5 b6 b7 b8 b9 (cs k) (rs k) b12 b13) _
  unfold zf_Pilot_findFastest_l0_b
  refine zh_ite (fun hlt => zh_ret fun l j2 l1 l2 => hn l j2 l1 (by omega)) fun hle => ?_
  rw [zi_w_id (x := j + 1) (by omega) (by omega)]
  refine zh_bind (yw_sflE R (q.2 k).2 c2 fun i i0 i1 ht => by rw [hp i i0 i1 ht]; exact yw_pos_in q q3 q4 i0 i1 k) fun r4 h4 => ?_
  have hp2 : ∀ i, 0 ≤ i → i < 24 → zb t i.toNat = true → r4.2.2.2.2.2.1 i = yw_pos L tS cl sc sr hs us cs rs br gl x3 i (k + 1) := fun i i0 i1 ht => by
    rw [h4.2 i i0 i1 ht, hp i i0 i1 ht]; rfl
  refine zh_bind (yw_l1E tin.1 tin.2) fun o ho => ?_
  match o, ho with
  | .inl e, ho =>
    obtain ⟨g', e7⟩ := yw_turnE (k := k) (as := r4.2.2.1) (g := b13) q
    show zh_ok ((zf_Pilot_turnOnward (hs k) (us k) r4.2.2.1 (cs k) wc (rs k) wr b13).bind _) _
    rw [e7, zl_b]
    refine kk (r4.1, r4.2.1, hs (k + 1), us (k + 1), 0, r4.2.2.2.1, r4.2.2.2.2.1, r4.2.2.2.2.2.1, r4.2.2.2.2.2.2.1, cs (k + 1), rs (k + 1), r4.2.2.2.2.2.2.2, g') (by omega) ⟨k + 1, by omega, ⟨rfl, rfl, rfl, rfl⟩, yv_ca0, hp2, fun l j2 l1 l2 j3 j4 ht => ?_⟩
    by_cases e2 : l = k + 1
    · subst e2
      show yw_pos L tS cl sc sr hs us cs rs br gl x3 j2 (k + 1) ≠ x4
      rw [← hp2 j2 j3 j4 ht]
      exact ho j2 j3 j4 ht
    · exact hn l j2 l1 (by omega) j3 j4 ht
  | .inr e, ho =>
    obtain ⟨o1, o2, i, ⟨i0, i1, ht, e3⟩, o3, o4⟩ := ho
    refine zh_ret ⟨o1, k + 1, i, ⟨⟨by omega, by omega⟩, ⟨i0, i1, ht, by show yw_pos L tS cl sc sr hs us cs rs br gl x3 i (k + 1) = x4; rw [← hp2 i i0 i1 ht]; exact e3⟩, fun j2 j3 j4 ht2 => ?_, fun l j2 l1 l2 => hn l j2 l1 (by omega)⟩, by rw [o2, ek]; omega, o4⟩
    show yw_pos L tS cl sc sr hs us cs rs br gl x3 j2 (k + 1) ≠ x4
    rw [← hp2 j2 j3 (by omega) ht2]
    exact o3 j2 j3 j4 ht2
end YLF
end
section
/-! fastest in the reference: the first hour, the first star; both the same. -/
section YLM
variable {L : zLW} {K V kd fr hf to C mk mf mh mt : Int → Int} {nc tS tL sP lP mc : Int} {t h u cl sc sr ch ts p i s : Int} {co ro br wc wr m gp gl : Int → Int} {hs us : Nat → Int} {cs rs : Nat → Int → Int}
/-- the reference at hour k, the ship at q -/
def yw_mk (t cl sc sr ch ts s : Int) (br wc wr gl : Int → Int) (hs us : Nat → Int) (cs rs : Nat → Int → Int) (k : Nat) (q : Int) (m : Int → Int) : Prop := ∃ gp, yk_sky t (hs k) (us k) cl sc sr ch (cs k) (rs k) br wc wr m ∧ yk_sea ts gp gl m ∧ gp s = q
theorem ym_steerE (R : yl_R L K V nc tS tL sP lP kd fr hf to mc C mk mf mh mt) (sq : yw_sq t h u cl sc sr ch ts co ro br wc wr gl hs us cs rs) {k : Nat} {q : Int} (hm : yw_mk t cl sc sr ch ts s br wc wr gl hs us cs rs k q m) (s0 : 0 ≤ s) (s1 : s < 6) (i1 : 0 ≤ i) (i2 : i < 24) (hti : zb t i.toNat = true) {g S : Int → Int} :
    zh_ok (zf_M_steers s i 0 mc m mk g mh mt C S mf) fun o => yw_mk t cl sc sr ch ts s br wc wr gl hs us cs rs (k + 1) (yw_nx L tS cl sc sr (hs k) (us k) (cs k) (rs k) br gl q i) o.1 := by
  obtain ⟨gp, kk, z, rfl⟩ := hm
  obtain ⟨p1, p2⟩ := z.2 s s0 s1
  obtain ⟨g', S', e1⟩ := ym_steersFrom (g := g) (S := S) R kk z p1 p2 i1 i2 hti
  have hq := yw_nx_in (L := L) (tS := tS) (sq.2 k).2 p1 p2 i1 i2
  have z2 := yk_sea_up z s0 s1 hq.1 hq.2
  have k2 : yk_sky t (hs k) (us k) cl sc sr ch (cs k) (rs k) br wc wr (zv_up m (120 + s) (yw_nx L tS cl sc sr (hs k) (us k) (cs k) (rs k) br gl (gp s) i)) := yk_sky_fr kk fun j hj => zv_up_n (by omega)
  obtain ⟨h', u', co', ro', m', e2, e3, k3, e4⟩ := yk_pass k2
  have e5 := (sq.2 k).1
  rw [e2] at e5
  cases e5
  have z3 : yk_sea ts (zv_up gp s (yw_nx L tS cl sc sr (hs k) (us k) (cs k) (rs k) br gl (gp s) i)) gl m' := yk_sea_fr z2 fun j hj => e4 j (by omega) (by omega) (by omega)
  unfold zf_M_steers
  rw [if_pos rfl, zi_w_id (x := 120 + s) (by omega) (by omega), zl_ci (by omega) (by omega), z.1.2.2.2.1 s s0 s1, e1, zl_b]
  dsimp only
  show zh_ok ((zf_M_passes (zv_up m (120 + s) (yw_nx L tS cl sc sr (hs k) (us k) (cs k) (rs k) br gl (gp s) i))).bind _) _
  rw [e3, zl_b]
  exact zh_ret ⟨_, k3, z3, zv_up_s⟩
theorem yw_comesByE (R : yl_R L K V nc tS tL sP lP kd fr hf to mc C mk mf mh mt) (sq : yw_sq t h u cl sc sr ch ts co ro br wc wr gl hs us cs rs) {p0 : Int} (hm : yw_mk t cl sc sr ch ts s br wc wr gl hs us cs rs 0 p0 m) (s0 : 0 ≤ s) (s1 : s < 6) (i1 : 0 ≤ i) (i2 : i < 24) (hti : zb t i.toNat = true) {n : Int} (n0 : 0 ≤ n) (n1 : n ≤ 48) {g S : Int → Int} :
    zh_ok (zf_M_comesBy s i p n mc m mk g mh mt C S mf) fun o => (∃ k : Nat, (k : Int) ≤ n ∧ o.1 = k ∧ yw_pos L tS cl sc sr hs us cs rs br gl p0 i k = p ∧ ∀ l, l < k → yw_pos L tS cl sc sr hs us cs rs br gl p0 i l ≠ p) ∨ (o.1 = -1 ∧ ∀ l : Nat, (l : Int) ≤ n → yw_pos L tS cl sc sr hs us cs rs br gl p0 i l ≠ p) := by
  unfold zf_M_comesBy
  refine zh_sum (Q := fun o => match o with
    | .inl _ => ∀ l : Nat, (l : Int) ≤ n → yw_pos L tS cl sc sr hs us cs rs br gl p0 i l ≠ p
    | .inr o => ∃ k : Nat, (k : Int) ≤ n ∧ o.1 = k ∧ yw_pos L tS cl sc sr hs us cs rs br gl p0 i k = p ∧ ∀ l, l < k → yw_pos L tS cl sc sr hs us cs rs br gl p0 i l ≠ p) (zh_loop (F := fun f j (a : (Int → Int) × (Int → Int) × (Int → Int)) => zf_M_comesBy_l0 s i p n mc mk mh mt C mf f j a.1 a.2.1 a.2.2) (N := n + 1) (I := fun j a => ∃ k : Nat, j = k ∧ (j ≤ n → yw_mk t cl sc sr ch ts s br wc wr gl hs us cs rs k (yw_pos L tS cl sc sr hs us cs rs br gl p0 i k) a.1) ∧ ∀ l, l < k → yw_pos L tS cl sc sr hs us cs rs br gl p0 i l ≠ p) (fun f j a j0 j1 ha kk => ?_) 49 0 (m, g, S) zi_fu (by omega) (by decide) (by omega) (by decide) ⟨0, rfl, fun _ => hm, fun l hl => by omega⟩) (fun _ hq => zh_ret (.inr ⟨rfl, hq⟩)) fun _ hq => zh_ret (.inl hq)
  obtain ⟨a1, a2, a3⟩ := a
  obtain ⟨k, ek, hm2, hn⟩ := ha
  dsimp only at hm2
  show zh_ok (zf_M_comesBy_l0_b s i p n mc mk mh mt C mf (zf_M_comesBy_l0 s i p n mc mk mh mt C mf f) j a1 a2 a3) _
  unfold zf_M_comesBy_l0_b
  refine zh_ite (fun hlt => zh_ret fun l hl => hn l (by omega)) fun hle => ?_
  have hm3 := hm2 (by omega)
  rw [zi_w_id (x := 120 + s) (by omega) (by omega), zi_w_id (x := j + 1) (by omega) (by omega)]
  have hpos : a1 (120 + s) = yw_pos L tS cl sc sr hs us cs rs br gl p0 i k := by
    obtain ⟨gp2, -, z2, e⟩ := hm3
    rw [z2.1.2.2.2.1 s s0 s1, e]
  refine zh_cond (zi_ix_of (by omega) (by omega)) (zh_ite (fun e => zh_ret ⟨k, by omega, ek, by rw [← hpos]; exact e, hn⟩) fun e => ?_)
  have hn2 : ∀ l, l < k + 1 → yw_pos L tS cl sc sr hs us cs rs br gl p0 i l ≠ p := fun l hl => by
    by_cases e2 : l = k
    · subst e2; rw [← hpos]; exact e
    · exact hn l (by omega)
  refine zh_ite (fun hjn => zh_bind (ym_steerE R sq hm3 s0 s1 i1 i2 hti) fun r5 h5 => ?_) fun hjn => ?_
  · exact kk (_, _, _) (by omega) ⟨k + 1, by omega, fun _ => h5, hn2⟩
  · exact kk (_, _, _) (by omega) ⟨k + 1, by omega, fun h => by omega, hn2⟩
theorem yw_ml0 (R : yl_R L K V nc tS tL sP lP kd fr hf to mc C mk mf mh mt) (sq : yw_sq t h u cl sc sr ch ts co ro br wc wr gl hs us cs rs) {p0 : Int} {mA : Int → Int} (hmA : ∀ m2, (∀ j, 0 ≤ j → j < 422 → m2 j = mA j) → yw_mk t cl sc sr ch ts s br wc wr gl hs us cs rs 0 p0 m2) (b126 : mA 126 = t) (s0 : 0 ≤ s) (s1 : s < 6) {n : Int} (n0 : 1 ≤ n) (n1 : n ≤ 48) (tin : 0 ≤ t ∧ t ≤ 2147483647) (hne : p0 ≠ p) {m1 g S : Int → Int} :
    zh_ok (zf_M_fastest_l0 s n p mc mA mk mh mt C mf zi_fu 1000000000 (-2) 0 m1 g S) fun o => (∃ (k : Nat) (i : Int), yw_hit t (fun i => yw_pos L tS cl sc sr hs us cs rs br gl p0 i) p n.toNat k i ∧ o.1 = k ∧ o.2.1 = i) ∨ (o.1 = 1000000000 ∧ yw_noh t (fun i => yw_pos L tS cl sc sr hs us cs rs br gl p0 i) p n.toNat) := by
  refine zh_loop (F := fun f i (a : Int × Int × (Int → Int) × (Int → Int) × (Int → Int)) => zf_M_fastest_l0 s n p mc mA mk mh mt C mf f a.1 a.2.1 i a.2.2.1 a.2.2.2.1 a.2.2.2.2) (N := 24) (I := fun j a => (∃ (k : Nat) (i : Int), ((1 ≤ k ∧ (k : Int) ≤ n) ∧ (0 ≤ i ∧ i < j ∧ zb t i.toNat = true ∧ yw_pos L tS cl sc sr hs us cs rs br gl p0 i k = p) ∧ (∀ j2, 0 ≤ j2 → j2 < i → zb t j2.toNat = true → yw_pos L tS cl sc sr hs us cs rs br gl p0 j2 k ≠ p) ∧ ∀ l j2, 1 ≤ l → l < k → 0 ≤ j2 → j2 < j → zb t j2.toNat = true → yw_pos L tS cl sc sr hs us cs rs br gl p0 j2 l ≠ p) ∧ a.1 = k ∧ a.2.1 = i) ∨ (a.1 = 1000000000 ∧ ∀ (l : Nat) j2, (l : Int) ≤ n → 0 ≤ j2 → j2 < j → zb t j2.toNat = true → yw_pos L tS cl sc sr hs us cs rs br gl p0 j2 l ≠ p)) (fun f j a j0 j1 ha kk => ?_) 24 0 (1000000000, -2, m1, g, S) zi_fu (by decide) (by decide) (by decide) (by decide) (.inr ⟨rfl, fun l j2 _ h1 h2 => by omega⟩)
  obtain ⟨a1, a2, a3, a4, a5⟩ := a
  dsimp only at ha
  show zh_ok (zf_M_fastest_l0_b s n p mc mA mk mh mt C mf (zf_M_fastest_l0 s n p mc mA mk mh mt C mf f) a1 a2 j a3 a4 a5) _
  unfold zf_M_fastest_l0_b
  refine zh_ite (fun hj => ?_) fun hj => zh_ret ?_
  · obtain ⟨mB, e2, hB⟩ := ze_again (g0 := mA) (g := a3)
    have hmB := hmA mB hB
    have c126 : mB 126 = t := by rw [hB 126 (by decide) (by decide), b126]
    rw [e2, zl_b, ze_M_isTold (by rw [c126]; exact tin.1) (by rw [c126]; exact tin.2), c126, zl_b, zi_w_id (x := j + 1) (by omega) (by omega)]
    have k2 : ∀ (b1 b2 : Int) (b3 b4 b5 : Int → Int), ((∃ (k : Nat) (i : Int), ((1 ≤ k ∧ (k : Int) ≤ n) ∧ (0 ≤ i ∧ i < j + 1 ∧ zb t i.toNat = true ∧ yw_pos L tS cl sc sr hs us cs rs br gl p0 i k = p) ∧ (∀ j2, 0 ≤ j2 → j2 < i → zb t j2.toNat = true → yw_pos L tS cl sc sr hs us cs rs br gl p0 j2 k ≠ p) ∧ ∀ l j2, 1 ≤ l → l < k → 0 ≤ j2 → j2 < j + 1 → zb t j2.toNat = true → yw_pos L tS cl sc sr hs us cs rs br gl p0 j2 l ≠ p) ∧ b1 = k ∧ b2 = i) ∨ (b1 = 1000000000 ∧ ∀ (l : Nat) j2, (l : Int) ≤ n → 0 ≤ j2 → j2 < j + 1 → zb t j2.toNat = true → yw_pos L tS cl sc sr hs us cs rs br gl p0 j2 l ≠ p)) → zh_ok (zf_M_fastest_l0 s n p mc mA mk mh mt C mf f b1 b2 (j + 1) b3 b4 b5) _ := fun b1 b2 b3 b4 b5 hh => kk (b1, b2, b3, b4, b5) hj hh
    refine zh_ite (fun q6 => k2 _ _ _ _ _ ?_) fun q6 => ?_
    · have hno : ¬ zb t j.toNat = true := fun ht => by
        have : zs_has 24 t j = 1 := by
          unfold zs_has
          rw [if_pos ⟨j0, hj, by rw [zb_tb2 tin.1 tin.2]; exact ht⟩]
        rw [this] at q6
        exact absurd q6 (by decide)
      rcases ha with ⟨k, i, ⟨x1, ⟨x2, x3, x4, x5⟩, x6, x7⟩, x8, x9⟩ | ⟨x1, x2⟩
      · refine .inl ⟨k, i, ⟨x1, ⟨x2, by omega, x4, x5⟩, x6, fun l j2 l1 l2 y0 y1 ht => x7 l j2 l1 l2 y0 ?_ ht⟩, x8, x9⟩
        by_cases e : j2 = j
        · subst e; exact absurd ht hno
        · omega
      · refine .inr ⟨x1, fun l j2 l1 y0 y1 ht => x2 l j2 l1 y0 ?_ ht⟩
        by_cases e : j2 = j
        · subst e; exact absurd ht hno
        · omega
    · have hti := yw_hs tin.1 tin.2 q6
      refine zh_bind (yw_comesByE R sq hmB s0 s1 j0 hj hti (by omega) (by omega)) fun r18 h18 => ?_
      rcases h18 with ⟨k, k1, o1, pk, pl⟩ | ⟨o1, pl⟩
      · have kpos : 1 ≤ k := by
          rcases Nat.eq_zero_or_pos k with e | e
          · subst e; exact absurd pk hne
          · exact e
        rw [o1, if_neg (by omega)]
        rcases ha with ⟨kb, ib, ⟨x1, ⟨x2, x3, x4, x5⟩, x6, x7⟩, rfl, rfl⟩ | ⟨rfl, x2⟩
        · refine zh_ite (fun c1 => k2 _ _ _ _ _ (.inl ⟨kb, a2, ⟨x1, ⟨x2, by omega, x4, x5⟩, x6, fun l j2 l1 l2 y0 y1 ht => ?_⟩, rfl, rfl⟩)) fun c1 => zh_ite (fun c2 => zh_ite (fun c3 => by omega) fun _ => k2 _ _ _ _ _ (.inl ⟨kb, a2, ⟨x1, ⟨x2, by omega, x4, x5⟩, x6, fun l j2 l1 l2 y0 y1 ht => ?_⟩, rfl, rfl⟩)) fun c2 => k2 _ _ _ _ _ (.inl ⟨k, j, ⟨⟨kpos, k1⟩, ⟨j0, by omega, hti, pk⟩, fun j2 y0 y1 ht => x7 k j2 kpos (by omega) y0 y1 ht, fun l j2 l1 l2 y0 y1 ht => ?_⟩, rfl, rfl⟩)
          · by_cases e : j2 = j
            · subst e; exact pl l (by omega)
            · exact x7 l j2 l1 l2 y0 (by omega) ht
          · by_cases e : j2 = j
            · subst e; exact pl l (by omega)
            · exact x7 l j2 l1 l2 y0 (by omega) ht
          · by_cases e : j2 = j
            · subst e; exact pl l (by omega)
            · exact x7 l j2 l1 (by omega) y0 (by omega) ht
        · refine zh_ite (fun c1 => by omega) fun c1 => zh_ite (fun c2 => by omega) fun c2 => k2 _ _ _ _ _ (.inl ⟨k, j, ⟨⟨kpos, k1⟩, ⟨j0, by omega, hti, pk⟩, fun j2 y0 y1 ht => x2 k j2 k1 y0 y1 ht, fun l j2 l1 l2 y0 y1 ht => ?_⟩, rfl, rfl⟩)
          by_cases e : j2 = j
          · subst e; exact pl l (by omega)
          · exact x2 l j2 (by omega) y0 (by omega) ht
      · rw [o1, if_pos rfl]
        rcases ha with ⟨kb, ib, ⟨x1, ⟨x2, x3, x4, x5⟩, x6, x7⟩, rfl, rfl⟩ | ⟨rfl, x2⟩
        · refine k2 _ _ _ _ _ (.inl ⟨kb, a2, ⟨x1, ⟨x2, by omega, x4, x5⟩, x6, fun l j2 l1 l2 y0 y1 ht => ?_⟩, rfl, rfl⟩)
          by_cases e : j2 = j
          · subst e; exact pl l (by omega)
          · exact x7 l j2 l1 l2 y0 (by omega) ht
        · refine k2 _ _ _ _ _ (.inr ⟨rfl, fun l j2 l1 y0 y1 ht => ?_⟩)
          by_cases e : j2 = j
          · subst e; exact pl l l1
          · exact x2 l j2 l1 y0 (by omega) ht
  · rcases ha with ⟨k, i, ⟨x1, ⟨x2, x3, x4, x5⟩, x6, x7⟩, x8, x9⟩ | ⟨x1, x2⟩
    · exact .inl ⟨k, i, ⟨⟨x1.1, by omega⟩, ⟨x2, by omega, x4, x5⟩, x6, fun l j2 l1 l2 y0 y1 ht => x7 l j2 l1 l2 y0 (by omega) ht⟩, x8, x9⟩
    · exact .inr ⟨x1, fun l j2 l1 l2 y0 y1 ht => x2 l j2 (by omega) y0 (by omega) ht⟩
theorem yw_hit_1 {P : Int → Nat → Int} {pl : Int} {n k k2 : Nat} {i2 : Int} (a : yw_hit t P pl n k i) (b : yw_hit t P pl n k2 i2) : k = k2 ∧ i = i2 := by
  obtain ⟨⟨a1, a2⟩, ⟨a3, a4, a5, a6⟩, a7, a8⟩ := a
  obtain ⟨⟨b1, b2⟩, ⟨b3, b4, b5, b6⟩, b7, b8⟩ := b
  have e : k = k2 := by
    rcases Nat.lt_trichotomy k k2 with h | h | h
    · exact absurd a6 (b8 k i a1 h a3 a4 a5)
    · exact h
    · exact absurd b6 (a8 k2 i2 b1 h b3 b4 b5)
  subst e
  refine ⟨rfl, ?_⟩
  rcases Int.lt_trichotomy i i2 with h | h | h
  · exact absurd a6 (b7 i a3 h a5)
  · exact h
  · exact absurd b6 (a7 i2 b3 h b5)
theorem yw_hit_no {P : Int → Nat → Int} {pl : Int} {n k : Nat} (a : yw_hit t P pl n k i) (b : yw_noh t P pl n) : False := b k i a.1.1 a.1.2 a.2.1.1 a.2.1.2.1 a.2.1.2.2.1 a.2.1.2.2.2
end YLM
end
section
/-! fastest: the same answer. -/
section YLZ
theorem ze_lowE {x : Int} (hx : z24 x) (h0 : x ≠ 0) : ∃ r : Nat, r < 24 ∧ zb x r = true ∧ (∀ j, j < r → zb x j = false) ∧ zf_X_lowestOf x = some (r : Int) := by
  have hex : ∃ j, j < 24 ∧ zb x j = true := by
    by_cases q : ∃ j, j < 24 ∧ zb x j = true
    · exact q
    · refine absurd ((z24_z hx).mpr fun j hj => ?_) h0
      cases c : zb x j
      · rfl
      · exact absurd ⟨j, hj, c⟩ q
  obtain ⟨r, r1, r2, r3⟩ := yn_low 24 hex
  have hand : zi_and x (zi_w (-x)) = zi_shl 1 r := by
    refine z24_ext (z24_and hx) (z24_shl (by omega) (by omega)) fun j hj => ?_
    rw [zb_and, zb_neg hx.1 (by have := hx.2; omega) (by omega), zb_shl (by omega) (by omega), Int.toNat_natCast]
    by_cases e : j = r
    · subst e
      rw [r2, decide_eq_true (rfl : j = j)]
      have : ¬ ∃ i, i < j ∧ zb x i = true := fun ⟨i, a, b⟩ => by rw [r3 i a] at b; cases b
      rw [decide_eq_false this]; rfl
    · rw [decide_eq_false e]
      by_cases c : j < r
      · rw [r3 j c, Bool.false_and]
      · rw [decide_eq_true (⟨r, by omega, r2⟩ : ∃ i, i < j ∧ zb x i = true)]
        cases zb x j <;> rfl
  refine ⟨r, r1, r2, r3, ?_⟩
  unfold zf_X_lowestOf
  have hd : ∀ k : Nat, k < 24 → zf_Integer_bitCount (zi_w (zi_shl 1 k - 1)) = some (k : Int) := by
    have hd2 : ∀ k : Nat, k < 24 → (0 ≤ zi_w (zi_shl 1 k - 1) ∧ zi_w (zi_shl 1 k - 1) < 16777216) ∧ zs_sum (zi_w (zi_shl 1 k - 1)) 24 = k := by decide +kernel
    intro k hk
    obtain ⟨⟨a, b⟩, c⟩ := hd2 k hk
    rw [ze_bitCount a b, c]
  rw [hand, hd r r1, zl_b]
variable {L : zLW} {K V kd fr hf to C mk mf mh mt : Int → Int} {nc tS tL sP lP mc : Int} {t h u cl sc sr ch ts p i s : Int} {co ro br wc wr m gp gl : Int → Int} {hs us : Nat → Int} {cs rs : Nat → Int → Int}
/-- the answer, by the places of the hours -/
def yw_fa (t w : Int) (P : Int → Nat → Int) (p0 pl : Int) (n : Nat) (r : Int) : Prop :=
  (p0 = pl ∧ ∃ i : Nat, (i < 24 ∧ zb t i = true ∧ ∀ j, j < i → zb t j = false) ∧ r = if w = 0 then 0 else (i : Int)) ∨
  (p0 ≠ pl ∧ ((∃ (k : Nat) (i : Int), yw_hit t P pl n k i ∧ r = if w = 0 then (k : Int) else i) ∨ (yw_noh t P pl n ∧ r = -2)))
theorem yw_fa_1 {w : Int} {P : Int → Nat → Int} {p0 pl : Int} {n : Nat} {r r2 : Int} (a : yw_fa t w P p0 pl n r) (b : yw_fa t w P p0 pl n r2) : r = r2 := by
  rcases a with ⟨e, i, ⟨i1, i2, i3⟩, rfl⟩ | ⟨e, a⟩
  · rcases b with ⟨-, j, ⟨j1, j2, j3⟩, rfl⟩ | ⟨e2, -⟩
    · have : i = j := by
        rcases Nat.lt_trichotomy i j with h | h | h
        · rw [j3 i h] at i2; cases i2
        · exact h
        · rw [i3 j h] at j2; cases j2
      rw [this]
    · exact absurd e e2
  · rcases b with ⟨e2, -⟩ | ⟨-, b⟩
    · exact absurd e2 e
    · rcases a with ⟨k, i, a1, rfl⟩ | ⟨a1, rfl⟩
      · rcases b with ⟨k2, i2, b1, rfl⟩ | ⟨b1, rfl⟩
        · obtain ⟨rfl, rfl⟩ := yw_hit_1 a1 b1; rfl
        · exact absurd b1 (yw_hit_no a1)
      · rcases b with ⟨k2, i2, b1, rfl⟩ | ⟨b1, rfl⟩
        · exact absurd a1 (yw_hit_no b1)
        · rfl
def yw_fbad (ts t s x y n w : Int) : Prop := zs_has 6 ts s = 0 ∨ zs_pl x y = 0 ∨ t = 0 ∨ zs_in n 1 48 = 0 ∨ zs_in w 0 1 = 0
theorem yw_askE {s x y : Int} (h1 : 0 ≤ ts) (h2 : ts ≤ 2147483647) : zh_ok (zf_X_canAskVoyage s x y ts t) fun r => (r = 0 → zs_has 6 ts s = 0 ∨ zs_pl x y = 0 ∨ t = 0) ∧ (¬ r = 0 → ¬ zs_has 6 ts s = 0 ∧ ¬ zs_pl x y = 0 ∧ ¬ t = 0) := by
  unfold zf_X_canAskVoyage
  rw [ze_Sea_hasShip h1 h2, zl_b]
  refine zh_ite (fun q => zh_ret ⟨fun _ => .inl q, fun q2 => absurd rfl q2⟩) fun q1 => ?_
  rw [ze_X_isPlace, zl_b]
  exact zh_ite (fun q => zh_ret ⟨fun _ => .inr (.inl q), fun q2 => absurd rfl q2⟩) fun q2 => zh_ite (fun q => zh_ret ⟨fun _ => .inr (.inr q), fun q2 => absurd rfl q2⟩) fun q3 => zh_ret ⟨fun q => absurd q (by decide), fun _ => ⟨q1, q2, q3⟩⟩
theorem yw_fastXE (R : yl_R L K V nc tS tL sP lP kd fr hf to mc C mk mf mh mt) (k : yk_sky t h u cl sc sr ch co ro br wc wr m) (z : yk_sea ts gp gl m) {s x y n w : Int} {f2 f4 f6 f8 f10 f12 f14 f18 f19 f20 f22 f24 f26 f27 : Int} {g1 g3 g5 g7 g9 g10 g12 g13 g18 : Int → Int} (sq : yw_sq t h u cl sc sr ch ts (zv_cpy co g1 24) (zv_cpy ro g3 24) (zv_cpy br g5 24) (zv_cpy wc g7 24) (zv_cpy wr g9 24) gl hs us cs rs) :
    zh_ok (zf_X_fastest s x y n w ts t f2 h f4 u f6 cl f8 sc f10 sr f12 ch f14 f18 f19 f20 tS f22 nc f24 sP f26 f27 co g1 ro g3 br g5 wc g7 wr g9 g10 gp g12 g13 kd hf to K g18 V gl) fun o => (yw_fbad ts t s x y n w ∧ o.1 = -1) ∨ (¬ yw_fbad ts t s x y n w ∧ yw_fa t w (fun i => yw_pos L tS cl sc sr hs us cs rs (zv_cpy br g5 24) gl (gp s) i) (gp s) (24 * y + x) n.toNat o.1) := by
  obtain ⟨⟨ht, -⟩, -⟩ := id k
  obtain ⟨⟨t1, t2, -⟩, hb⟩ := id z
  unfold zf_X_fastest
  refine zh_bind (yw_askE t1 (by omega)) fun r1 h1 => zh_ite (fun q1 => zh_ret (.inl ⟨?_, rfl⟩)) fun q1 => ?_
  · rcases h1.1 q1 with a | a | a
    · exact .inl a
    · exact .inr (.inl a)
    · exact .inr (.inr (.inl a))
  obtain ⟨b1, b2, b3⟩ := h1.2 q1
  obtain ⟨s0, s1, -⟩ := zs_has_ne b1
  obtain ⟨x0, x1, y0, y1⟩ := zs_pl_ne b2
  rw [ze_X_isWithin, zl_b]
  refine zh_ite (fun q => zh_ret (.inl ⟨.inr (.inr (.inr (.inl q))), rfl⟩)) fun q2 => ?_
  rw [ze_X_isWithin, zl_b]
  refine zh_ite (fun q => zh_ret (.inl ⟨.inr (.inr (.inr (.inr q))), rfl⟩)) fun q3 => ?_
  have hgood : ¬ yw_fbad ts t s x y n w := fun hb => by
    rcases hb with a | a | a | a | a
    · exact b1 a
    · exact b2 a
    · exact b3 a
    · exact q2 a
    · exact q3 a
  obtain ⟨n0, n1⟩ := zs_in_ne q2
  unfold zf_Sky_copyFrom
  rw [zl_b]
  dsimp only
  obtain ⟨gA, e0, h0⟩ := ze_open (f := f18) (g := g10)
  rw [e0, zl_b, ze_X_placeOf x0 x1 y0 y1, zl_b]
  have hp := hb s s0 s1
  refine zh_cond (zi_ix_of s0 s1) (zh_bind (Q := fun o => (o.1 = 1 ∧ yw_fa t w (fun i => yw_pos L tS cl sc sr hs us cs rs (zv_cpy br g5 24) gl (gp s) i) (gp s) (24 * y + x) n.toNat (if w = 0 then o.2.2.2.2.2.2.2.2.1 else o.2.2.2.2.2.2.2.2.2.1)) ∨ (o.1 = 0 ∧ yw_fa t w (fun i => yw_pos L tS cl sc sr hs us cs rs (zv_cpy br g5 24) gl (gp s) i) (gp s) (24 * y + x) n.toNat (-2))) ?_ fun r11 h11 => zh_ite (fun c => ?_) fun c => ?_)
  · by_cases hne : gp s = 24 * y + x
    · obtain ⟨r, r1, r2, r3, e9⟩ := ze_lowE ht b3
      unfold zf_Pilot_findFastest
      rw [if_pos hne, e9, zl_b]
      refine zh_ret (.inl ⟨rfl, .inl ⟨hne, r, ⟨r1, r2, r3⟩, ?_⟩⟩)
      by_cases cw : w = 0
      · rw [if_pos cw]; (try rfl)
      · rw [if_neg cw]; (try rfl)
    · refine zh_mono (yw_findFE R sq yv_ca0 hp.1 hp.2 (by omega) n1 hne) fun o ho => ?_
      rcases ho with ⟨o1, kk, i, o2, o3, o4⟩ | ⟨o1, o2⟩
      · refine .inl ⟨o1, .inr ⟨hne, .inl ⟨kk, i, o2, ?_⟩⟩⟩
        by_cases cw : w = 0
        · rw [if_pos cw, if_pos cw, o3]
        · rw [if_neg cw, if_neg cw, o4]
      · exact .inr ⟨o1, .inr ⟨hne, .inr ⟨o2, rfl⟩⟩⟩
  · rcases h11 with ⟨a, -⟩ | ⟨-, a⟩
    · omega
    · exact zh_ret (.inr ⟨hgood, a⟩)
  · rcases h11 with ⟨-, a⟩ | ⟨a, -⟩
    · refine zh_ite (fun cw => zh_ret (.inr ⟨hgood, ?_⟩)) fun cw => zh_ret (.inr ⟨hgood, ?_⟩)
      · rw [if_pos cw] at a; exact a
      · rw [if_neg cw] at a; exact a
    · exact absurd a c
/-- the ship is there already -/
theorem yw_ml1 (R : yl_R L K V nc tS tL sP lP kd fr hf to mc C mk mf mh mt) (sq : yw_sq t h u cl sc sr ch ts co ro br wc wr gl hs us cs rs) {p0 : Int} {mA : Int → Int} (hmA : ∀ m2, (∀ j, 0 ≤ j → j < 422 → m2 j = mA j) → yw_mk t cl sc sr ch ts s br wc wr gl hs us cs rs 0 p0 m2) (b126 : mA 126 = t) (s0 : 0 ≤ s) (s1 : s < 6) {n : Int} (n0 : 1 ≤ n) (n1 : n ≤ 48) (tin : 0 ≤ t ∧ t ≤ 2147483647) {m1 g S : Int → Int} :
    zh_ok (zf_M_fastest_l0 s n p0 mc mA mk mh mt C mf zi_fu 0 (-2) 0 m1 g S) fun o => o.1 = 0 ∧ ((o.2.1 = -2 ∧ ∀ i : Int, 0 ≤ i → i < 24 → ¬ zb t i.toNat = true) ∨ ∃ i : Int, (0 ≤ i ∧ i < 24 ∧ zb t i.toNat = true) ∧ (∀ j : Int, 0 ≤ j → j < i → ¬ zb t j.toNat = true) ∧ o.2.1 = i) := by
  refine zh_loop (F := fun f i (a : Int × Int × (Int → Int) × (Int → Int) × (Int → Int)) => zf_M_fastest_l0 s n p0 mc mA mk mh mt C mf f a.1 a.2.1 i a.2.2.1 a.2.2.2.1 a.2.2.2.2) (N := 24) (I := fun j a => a.1 = 0 ∧ ((a.2.1 = -2 ∧ ∀ i : Int, 0 ≤ i → i < j → ¬ zb t i.toNat = true) ∨ ∃ i : Int, (0 ≤ i ∧ i < j ∧ zb t i.toNat = true) ∧ (∀ j : Int, 0 ≤ j → j < i → ¬ zb t j.toNat = true) ∧ a.2.1 = i)) (fun f j a j0 j1 ha kk => ?_) 24 0 (0, -2, m1, g, S) zi_fu (by decide) (by decide) (by decide) (by decide) ⟨rfl, .inl ⟨rfl, fun i i0 i1 => by omega⟩⟩
  obtain ⟨a1, a2, a3, a4, a5⟩ := a
  obtain ⟨e1, ha⟩ := ha
  dsimp only at e1 ha
  subst e1
  show zh_ok (zf_M_fastest_l0_b s n p0 mc mA mk mh mt C mf (zf_M_fastest_l0 s n p0 mc mA mk mh mt C mf f) 0 a2 j a3 a4 a5) _
  unfold zf_M_fastest_l0_b
  refine zh_ite (fun hj => ?_) fun hj => zh_ret ⟨rfl, ?_⟩
  · obtain ⟨mB, e2, hB⟩ := ze_again (g0 := mA) (g := a3)
    have hmB := hmA mB hB
    have c126 : mB 126 = t := by rw [hB 126 (by decide) (by decide), b126]
    rw [e2, zl_b, ze_M_isTold (by rw [c126]; exact tin.1) (by rw [c126]; exact tin.2), c126, zl_b, zi_w_id (x := j + 1) (by omega) (by omega)]
    have k2 : ∀ (b2 : Int) (b3 b4 b5 : Int → Int), ((b2 = -2 ∧ ∀ i : Int, 0 ≤ i → i < j + 1 → ¬ zb t i.toNat = true) ∨ ∃ i : Int, (0 ≤ i ∧ i < j + 1 ∧ zb t i.toNat = true) ∧ (∀ j : Int, 0 ≤ j → j < i → ¬ zb t j.toNat = true) ∧ b2 = i) → zh_ok (zf_M_fastest_l0 s n p0 mc mA mk mh mt C mf f 0 b2 (j + 1) b3 b4 b5) _ := fun b2 b3 b4 b5 hh => kk (0, b2, b3, b4, b5) hj ⟨rfl, hh⟩
    refine zh_ite (fun q6 => k2 _ _ _ _ ?_) fun q6 => ?_
    · have hno : ¬ zb t j.toNat = true := fun ht => by
        have : zs_has 24 t j = 1 := by
          unfold zs_has
          rw [if_pos ⟨j0, hj, by rw [zb_tb2 tin.1 tin.2]; exact ht⟩]
        rw [this] at q6
        exact absurd q6 (by decide)
      rcases ha with ⟨x1, x2⟩ | ⟨i, ⟨x1, x2, x3⟩, x4, x5⟩
      · refine .inl ⟨x1, fun i i0 i1 => ?_⟩
        by_cases e : i = j
        · subst e; exact hno
        · exact x2 i i0 (by omega)
      · exact .inr ⟨i, ⟨x1, by omega, x3⟩, x4, x5⟩
    · have hti := yw_hs tin.1 tin.2 q6
      refine zh_bind (yw_comesByE R sq hmB s0 s1 j0 hj hti (by omega) (by omega)) fun r18 h18 => ?_
      have o1 : r18.1 = 0 := by
        rcases h18 with ⟨k, -, o1, -, pl⟩ | ⟨-, pl⟩
        · rcases Nat.eq_zero_or_pos k with e | e
          · rw [o1, e]; rfl
          · exact absurd rfl (pl 0 e)
        · exact absurd rfl (pl 0 (by omega))
      rw [o1, if_neg (by decide), if_neg (by decide), if_pos rfl]
      rcases ha with ⟨rfl, x2⟩ | ⟨i, ⟨x1, x2, x3⟩, x4, rfl⟩
      · rw [if_pos rfl]
        exact k2 _ _ _ _ (.inr ⟨j, ⟨j0, by omega, hti⟩, fun l l0 l1 => x2 l l0 l1, rfl⟩)
      · rw [if_neg (by omega)]
        exact k2 _ _ _ _ (.inr ⟨a2, ⟨x1, by omega, x3⟩, x4, rfl⟩)
  · rcases ha with ⟨x1, x2⟩ | ⟨i, ⟨x1, x2, x3⟩, x4, x5⟩
    · exact .inl ⟨x1, fun i i0 i1 => x2 i i0 (by omega)⟩
    · exact .inr ⟨i, ⟨x1, by omega, x3⟩, x4, x5⟩
theorem yw_fastME (R : yl_R L K V nc tS tL sP lP kd fr hf to mc C mk mf mh mt) (k : yk_sky t h u cl sc sr ch co ro br wc wr m) (z : yk_sea ts gp gl m) (sq : yw_sq t h u cl sc sr ch ts co ro br wc wr gl hs us cs rs) {x y n w : Int} {aA g S : Int → Int} :
    zh_ok (zf_M_fastest s x y n w mc m aA mk g mh mt C S mf) fun o => ((yw_fbad ts t s x y n w ∧ o.1 = -1) ∨ (¬ yw_fbad ts t s x y n w ∧ yw_fa t w (fun i => yw_pos L tS cl sc sr hs us cs rs br gl (gp s) i) (gp s) (24 * y + x) n.toNat o.1)) ∧ ∀ j, 0 ≤ j → j < 422 → o.2.1 j = m j := by
  obtain ⟨⟨ht, k126⟩, -⟩ := id k
  obtain ⟨⟨t1, t2, e127, hsp, -⟩, hb⟩ := id z
  have tin : 0 ≤ t ∧ t ≤ 2147483647 := ⟨ht.1, by have := ht.2; omega⟩
  unfold zf_M_fastest
  rw [ze_M_isShip (by omega) (by omega), zl_b, e127]
  refine zh_ite (fun q => zh_ret ⟨.inl ⟨.inl q, rfl⟩, fun _ _ _ => rfl⟩) fun b1 => ?_
  rw [ze_M_isPlace, zl_b]
  refine zh_ite (fun q => zh_ret ⟨.inl ⟨.inr (.inl q), rfl⟩, fun _ _ _ => rfl⟩) fun b2 => ?_
  rw [ze_M_in, zl_b]
  refine zh_ite (fun q => zh_ret ⟨.inl ⟨.inr (.inr (.inr (.inl q))), rfl⟩, fun _ _ _ => rfl⟩) fun q2 => ?_
  rw [ze_M_in, zl_b]
  refine zh_ite (fun q => zh_ret ⟨.inl ⟨.inr (.inr (.inr (.inr q))), rfl⟩, fun _ _ _ => rfl⟩) fun q3 => ?_
  rw [k126]
  refine zh_ite (fun q => zh_ret ⟨.inl ⟨.inr (.inr (.inl q)), rfl⟩, fun _ _ _ => rfl⟩) fun b3 => ?_
  have hgood : ¬ yw_fbad ts t s x y n w := fun hb => by
    rcases hb with a | a | a | a | a
    · exact b1 a
    · exact b2 a
    · exact b3 a
    · exact q2 a
    · exact q3 a
  obtain ⟨s0, s1, -⟩ := zs_has_ne b1
  obtain ⟨x0, x1, y0, y1⟩ := zs_pl_ne b2
  obtain ⟨n0, n1⟩ := zs_in_ne q2
  obtain ⟨mA, e1, hA⟩ := ze_begins (g0 := m) (g := aA)
  rw [e1, zl_b, zl_b, zi_w_id (x := 120 + s) (by omega) (by omega), zi_w_id (x := 24 * y) (by omega) (by omega), zi_w_id (x := 24 * y + x) (by omega) (by omega)]
  have hmA : ∀ m2, (∀ j, 0 ≤ j → j < 422 → m2 j = mA j) → yw_mk t cl sc sr ch ts s br wc wr gl hs us cs rs 0 (gp s) m2 := fun m2 e => by
    obtain ⟨⟨rfl, rfl, rfl, rfl⟩, -⟩ := sq
    have e2 : ∀ j, 0 ≤ j → j < 422 → m2 j = m j := fun j j0 j1 => (e j j0 j1).trans (hA j j0 j1)
    exact ⟨gp, yk_sky_cg k (fun _ _ _ => rfl) (fun _ _ _ => rfl) (fun _ _ _ => rfl) (fun _ _ _ => rfl) (fun _ _ _ => rfl) e2, yk_sea_cg z (fun _ _ _ => rfl) (fun _ _ _ => rfl) e2, rfl⟩
  have b126 : mA 126 = t := by rw [hA 126 (by decide) (by decide), k126]
  have fin : ∀ m2, ∃ m3, zf_M_again mA m2 = some m3 ∧ ∀ j, 0 ≤ j → j < 422 → m3 j = m j := fun m2 => by
    obtain ⟨m3, e3, h3⟩ := ze_again (g0 := mA) (g := m2)
    exact ⟨m3, e3, fun j j0 j1 => by rw [h3 j j0 j1, hA j j0 j1]⟩
  refine zh_cond (zi_ix_of (by omega) (by omega)) ?_
  rw [hsp s s0 s1]
  refine zh_ite (fun he => ?_) fun hne => ?_
  · rw [← he]
    refine zh_bind (yw_ml1 R sq hmA b126 s0 s1 n0 n1 tin) fun q28 h28 => ?_
    obtain ⟨m3, e3, h3⟩ := fin q28.2.2.1
    obtain ⟨o1, ho⟩ := h28
    have ho : ∃ i : Int, (0 ≤ i ∧ i < 24 ∧ zb t i.toNat = true) ∧ (∀ j : Int, 0 ≤ j → j < i → ¬ zb t j.toNat = true) ∧ q28.2.1 = i := by
      rcases ho with ⟨-, hno⟩ | ho
      · exact absurd ((z24_z ht).mpr fun j hj => by
          cases c : zb t j
          · rfl
          · exact absurd c (hno (j : Int) (by omega) (by omega))) b3
      · exact ho
    obtain ⟨i, ⟨i0, i1, hti⟩, hlow, o2⟩ := ho
    have hfa : ∀ r, r = (if w = 0 then 0 else i) → yw_fa t w (fun i => yw_pos L tS cl sc sr hs us cs rs br gl (gp s) i) (gp s) (gp s) n.toNat r := fun r hr => .inl ⟨rfl, i.toNat, ⟨by omega, hti, fun j hj => by
      cases c : zb t j
      · rfl
      · exact absurd c (hlow (j : Int) (by omega) (by omega))⟩, by rw [hr, Int.toNat_of_nonneg i0]⟩
    rw [e3, zl_b, o1, if_neg (by decide)]
    exact zh_ite (fun cw => zh_ret ⟨.inr ⟨hgood, hfa _ (by rw [if_pos cw])⟩, h3⟩) fun cw => zh_ret ⟨.inr ⟨hgood, hfa _ (by rw [if_neg cw]; exact o2)⟩, h3⟩
  · refine zh_bind (yw_ml0 R sq hmA b126 s0 s1 n0 n1 tin hne) fun q28 h28 => ?_
    obtain ⟨m3, e3, h3⟩ := fin q28.2.2.1
    rw [e3, zl_b]
    rcases h28 with ⟨kk, i, o2, o3, o4⟩ | ⟨o1, o2⟩
    · have : kk ≤ n.toNat := o2.1.2
      rw [o3, if_neg (by omega)]
      exact zh_ite (fun cw => zh_ret ⟨.inr ⟨hgood, .inr ⟨hne, .inl ⟨kk, i, o2, by rw [if_pos cw]⟩⟩⟩, h3⟩) fun cw => zh_ret ⟨.inr ⟨hgood, .inr ⟨hne, .inl ⟨kk, i, o2, by rw [if_neg cw]; exact o4⟩⟩⟩, h3⟩
    · rw [o1, if_pos rfl]
      exact zh_ret ⟨.inr ⟨hgood, .inr ⟨hne, .inr ⟨o2, rfl⟩⟩⟩, h3⟩
theorem yo_fastest (R : yl_R L K V nc tS tL sP lP kd fr hf to mc C mk mf mh mt) (k : yk_sky t h u cl sc sr ch co ro br wc wr m) (z : yk_sea ts gp gl m) {s x y n w : Int} {f2 f4 f6 f8 f10 f12 f14 f18 f19 f20 f22 f24 f26 f27 : Int} {g1 g3 g5 g7 g9 g10 g12 g13 g18 aA g S : Int → Int} :
    ∃ o1 o2, zf_X_fastest s x y n w ts t f2 h f4 u f6 cl f8 sc f10 sr f12 ch f14 f18 f19 f20 tS f22 nc f24 sP f26 f27 co g1 ro g3 br g5 wc g7 wr g9 g10 gp g12 g13 kd hf to K g18 V gl = some o1 ∧ zf_M_fastest s x y n w mc m aA mk g mh mt C S mf = some o2 ∧ o1.1 = o2.1 ∧ ∀ j, 0 ≤ j → j < 422 → o2.2.1 j = m j := by
  have k2 : yk_sky t h u cl sc sr ch (zv_cpy co g1 24) (zv_cpy ro g3 24) (zv_cpy br g5 24) (zv_cpy wc g7 24) (zv_cpy wr g9 24) m := yk_sky_cg k (fun j j1 j2 => zv_cpy_in j2) (fun j j1 j2 => zv_cpy_in j2) (fun j j1 j2 => zv_cpy_in j2) (fun j j1 j2 => zv_cpy_in j2) (fun j j1 j2 => zv_cpy_in j2) (fun _ _ _ => rfl)
  obtain ⟨hs, us, cs, rs, sq⟩ := yw_sq_ex ⟨gp, m, k2, z⟩
  obtain ⟨o1, e1, h1⟩ := yw_fastXE (s := s) (x := x) (y := y) (n := n) (w := w) (f2 := f2) (f4 := f4) (f6 := f6) (f8 := f8) (f10 := f10) (f12 := f12) (f14 := f14) (f18 := f18) (f19 := f19) (f20 := f20) (f22 := f22) (f24 := f24) (f26 := f26) (f27 := f27) (g10 := g10) (g12 := g12) (g13 := g13) (g18 := g18) R k z sq
  obtain ⟨o2, e2, h2, h3⟩ := yw_fastME (s := s) (x := x) (y := y) (n := n) (w := w) (aA := aA) (g := g) (S := S) R k2 z sq
  refine ⟨o1, o2, e1, e2, ?_, h3⟩
  rcases h1 with ⟨a1, a2⟩ | ⟨a1, a2⟩
  · rcases h2 with ⟨-, b2⟩ | ⟨b1, -⟩
    · rw [a2, b2]
    · exact absurd a1 b1
  · rcases h2 with ⟨b1, -⟩ | ⟨-, b2⟩
    · exact absurd b1 a1
    · exact yw_fa_1 a2 b2
end YLZ
end
section
/-! How many ways: counting maps of names to stars, in any order of the names. -/
def yc_sum (f : Nat → Nat) : Nat → Nat
  | 0 => 0
  | k + 1 => yc_sum f k + f k
theorem yc_sum_cg {f g : Nat → Nat} : ∀ {k : Nat}, (∀ i, i < k → f i = g i) → yc_sum f k = yc_sum g k
  | 0, _ => rfl
  | k + 1, h => by
    show yc_sum f k + f k = yc_sum g k + g k
    rw [yc_sum_cg fun i hi => h i (by omega), h k (by omega)]
theorem yc_sum_add {f g : Nat → Nat} : ∀ k : Nat, yc_sum (fun i => f i + g i) k = yc_sum f k + yc_sum g k
  | 0 => rfl
  | k + 1 => by
    show yc_sum (fun i => f i + g i) k + (f k + g k) = yc_sum f k + f k + (yc_sum g k + g k)
    rw [yc_sum_add k]; omega
theorem yc_sum_0 : ∀ k : Nat, yc_sum (fun _ => 0) k = 0
  | 0 => rfl
  | k + 1 => by
    show yc_sum (fun _ => 0) k + 0 = 0
    rw [yc_sum_0 k]
theorem yc_sum_swap {f : Nat → Nat → Nat} {m : Nat} : ∀ k : Nat, yc_sum (fun i => yc_sum (fun j => f i j) m) k = yc_sum (fun j => yc_sum (fun i => f i j) k) m
  | 0 => (yc_sum_0 m).symm
  | k + 1 => by
    show yc_sum (fun i => yc_sum (fun j => f i j) m) k + yc_sum (fun j => f k j) m = yc_sum (fun j => yc_sum (fun i => f i j) k + f k j) m
    rw [yc_sum_swap k, yc_sum_add m]
theorem yc_sum_if {b : Bool} {f : Nat → Nat} {k : Nat} : (if b = true then yc_sum f k else 0) = yc_sum (fun i => if b = true then f i else 0) k := by
  cases b with
  | true => rfl
  | false => exact (yc_sum_0 k).symm
/-- what is left when a name is a star -/
def yc_nw (nr J row : Nat → Nat → Bool) (a i : Nat) : Nat → Nat → Bool := fun b j => row b j && (!(Nat.beq j i) && (!(nr a b) || J i j))
def yc (nr J : Nat → Nat → Bool) : List Nat → (Nat → Nat → Bool) → Nat
  | [], _ => 1
  | a :: ns, row => yc_sum (fun i => if row a i = true then yc nr J ns (yc_nw nr J row a i) else 0) 24
section YCNT
variable {nr J row row2 : Nat → Nat → Bool}
theorem yc_cg : ∀ {ns : List Nat} {row row2 : Nat → Nat → Bool}, (∀ b ∈ ns, ∀ j, j < 24 → row b j = row2 b j) → yc nr J ns row = yc nr J ns row2
  | [], _, _, _ => rfl
  | a :: ns, row, row2, h => by
    refine yc_sum_cg fun i hi => ?_
    rw [h a List.mem_cons_self i hi]
    by_cases c : row2 a i = true
    · rw [if_pos c, if_pos c]
      refine yc_cg fun b hb j hj => ?_
      unfold yc_nw
      rw [h b (List.mem_cons_of_mem _ hb) j hj]
    · rw [if_neg c, if_neg c]
theorem yc_2 {a b : Nat} {ns : List Nat} : yc nr J (a :: b :: ns) row = yc_sum (fun i => yc_sum (fun j => if (row a i && yc_nw nr J row a i b j) = true then yc nr J ns (yc_nw nr J (yc_nw nr J row a i) b j) else 0) 24) 24 := by
  refine yc_sum_cg fun i hi => ?_
  show (if row a i = true then yc_sum (fun j => if yc_nw nr J row a i b j = true then yc nr J ns (yc_nw nr J (yc_nw nr J row a i) b j) else 0) 24 else 0) = _
  rw [yc_sum_if]
  refine yc_sum_cg fun j hj => ?_
  cases row a i <;> rfl
theorem yc_swap (hn : ∀ a b, nr a b = nr b a) (hJ : ∀ i j, J i j = J j i) {a b : Nat} {ns : List Nat} : yc nr J (a :: b :: ns) row = yc nr J (b :: a :: ns) row := by
  rw [yc_2, yc_2, yc_sum_swap]
  refine yc_sum_cg fun j hj => yc_sum_cg fun i hi => ?_
  have e : (row a i && yc_nw nr J row a i b j) = (row b j && yc_nw nr J row b j a i) := by
    unfold yc_nw
    rw [hn b a, hJ j i, show Nat.beq j i = Nat.beq i j from by rw [Bool.eq_iff_iff, Nat.beq_eq, Nat.beq_eq]; exact eq_comm]
    cases row a i <;> cases row b j <;> rfl
  rw [e]
  by_cases c : (row b j && yc_nw nr J row b j a i) = true
  · rw [if_pos c, if_pos c]
    refine yc_cg fun d hd k hk => ?_
    unfold yc_nw
    cases row d k <;> cases Nat.beq k i <;> cases Nat.beq k j <;> cases nr a d <;> cases nr b d <;> cases J i k <;> cases J j k <;> rfl
  · rw [if_neg c, if_neg c]
theorem yc_front (hn : ∀ a b, nr a b = nr b a) (hJ : ∀ i j, J i j = J j i) {a : Nat} : ∀ {ns : List Nat} {row : Nat → Nat → Bool}, a ∈ ns → yc nr J ns row = yc nr J (a :: ns.erase a) row
  | b :: ns, row, h => by
    by_cases e : b = a
    · subst e; rw [List.erase_cons_head]
    · have hm : a ∈ ns := by
        rcases List.mem_cons.mp h with h | h
        · exact absurd h.symm e
        · exact h
      rw [List.erase_cons_tail (by simpa using e), ← yc_swap hn hJ]
      refine yc_sum_cg fun i hi => ?_
      rw [yc_front hn hJ hm]
/-- stars given anew -/
theorem yc_ren {π : Nat → Nat} (hp : ∀ i, i < 24 → π i < 24) (hpp : ∀ i, π (π i) = i) (hJ : ∀ i j, i < 24 → j < 24 → J (π i) (π j) = J i j) (hs : ∀ f : Nat → Nat, yc_sum (fun i => f (π i)) 24 = yc_sum f 24) : ∀ {ns : List Nat} {row : Nat → Nat → Bool}, yc nr J ns (fun b j => row b (π j)) = yc nr J ns row
  | [], _ => rfl
  | a :: ns, row => by
    show yc_sum (fun i => if row a (π i) = true then yc nr J ns (yc_nw nr J (fun b j => row b (π j)) a i) else 0) 24 = yc_sum (fun i => if row a i = true then yc nr J ns (yc_nw nr J row a i) else 0) 24
    rw [← hs (fun i => if row a i = true then yc nr J ns (yc_nw nr J row a i) else 0)]
    refine yc_sum_cg fun i hi => ?_
    show _ = if row a (π i) = true then yc nr J ns (yc_nw nr J row a (π i)) else 0
    by_cases c : row a (π i) = true
    · rw [if_pos c, if_pos c, ← yc_ren hp hpp hJ hs (row := yc_nw nr J row a (π i))]
      refine yc_cg fun b hb j hj => ?_
      unfold yc_nw
      rw [hJ i j hi hj]
      have : Nat.beq (π j) (π i) = Nat.beq j i := by
        rw [Bool.eq_iff_iff, Nat.beq_eq, Nat.beq_eq]
        exact ⟨fun e => by rw [← hpp j, e, hpp], fun e => by rw [e]⟩
      rw [this]
    · rw [if_neg c, if_neg c]
end YCNT
theorem yc_sum_up {f : Nat → Nat} {i v : Nat} : ∀ {n : Nat}, i < n → yc_sum (fun j => if j = i then v else f j) n + f i = yc_sum f n + v
  | n + 1, h => by
    show yc_sum (fun j => if j = i then v else f j) n + (if n = i then v else f n) + f i = yc_sum f n + f n + v
    by_cases e : n = i
    · subst e
      rw [if_pos rfl, yc_sum_cg (f := fun j => if j = n then v else f j) (g := f) fun j hj => if_neg (by omega)]
      omega
    · have := yc_sum_up (f := f) (v := v) (show i < n by omega)
      rw [if_neg e]
      omega
def yc_tr (i k j : Nat) : Nat := if j = i then k else if j = k then i else j
theorem yc_tr_tr {i k j : Nat} : yc_tr i k (yc_tr i k j) = j := by
  unfold yc_tr
  (repeat' split) <;> omega
theorem yc_tr_lt {i k j n : Nat} (hi : i < n) (hk : k < n) (hj : j < n) : yc_tr i k j < n := by
  unfold yc_tr
  (repeat' split) <;> omega
theorem yc_sum_tr {f : Nat → Nat} {i k n : Nat} (hi : i < n) (hk : k < n) : yc_sum (fun j => f (yc_tr i k j)) n = yc_sum f n := by
  by_cases e : i = k
  · subst e
    refine yc_sum_cg fun j _ => ?_
    have : yc_tr i i j = j := by unfold yc_tr; (repeat' split) <;> omega
    rw [this]
  · have h1 := yc_sum_up (f := f) (v := f k) hi
    have h2 := yc_sum_up (f := fun j => if j = i then f k else f j) (v := f i) hk
    have e2 : (if k = i then f k else f k) = f k := by split <;> rfl
    have h3 : yc_sum (fun j => f (yc_tr i k j)) n = yc_sum (fun j => if j = k then f i else if j = i then f k else f j) n := yc_sum_cg fun j _ => by
      unfold yc_tr
      by_cases a : j = i
      · rw [if_pos a, if_neg (show ¬ j = k by omega), if_pos a]
      · by_cases b : j = k
        · rw [if_neg a, if_pos b, if_pos b]
        · rw [if_neg a, if_neg b, if_neg b, if_neg a]
    rw [h3]
    have h2 : yc_sum (fun j => if j = k then f i else if j = i then f k else f j) n + (if k = i then f k else f k) = yc_sum (fun j => if j = i then f k else f j) n + f i := h2
    rw [e2] at h2
    omega
/-- twins: the same lines but to each other -/
def yc_tw (J : Nat → Nat → Bool) (i k : Nat) : Prop := ∀ x, x < 24 → x ≠ i → x ≠ k → J i x = J k x
theorem yc_tw_J {J : Nat → Nat → Bool} (hJ : ∀ i j, J i j = J j i) (hx : ∀ i, J i i = false) {i k : Nat} (h : yc_tw J i k) : ∀ x y, x < 24 → y < 24 → J (yc_tr i k x) (yc_tr i k y) = J x y := by
  intro x y hx0 hy0
  unfold yc_tr
  by_cases a : x = i
  · rw [if_pos a]
    by_cases b : y = i
    · rw [if_pos b, a, b, hx, hx]
    · rw [if_neg b]
      by_cases c : y = k
      · rw [if_pos c, a, c, hJ]
      · rw [if_neg c, a]; exact (h y hy0 b c).symm
  · rw [if_neg a]
    by_cases a2 : x = k
    · rw [if_pos a2]
      by_cases b : y = i
      · rw [if_pos b, a2, b, hJ]
      · rw [if_neg b]
        by_cases c : y = k
        · rw [if_pos c, a2, c, hx, hx]
        · rw [if_neg c, a2]; exact h y hy0 b c
    · rw [if_neg a2]
      by_cases b : y = i
      · rw [if_pos b, b, hJ x k, hJ x i]; exact (h x hx0 a a2).symm
      · rw [if_neg b]
        by_cases c : y = k
        · rw [if_pos c, c, hJ x i, hJ x k]; exact h x hx0 a a2
        · rw [if_neg c]
theorem yc_twin {nr J row : Nat → Nat → Bool} (hJ : ∀ i j, J i j = J j i) (hx : ∀ i, J i i = false) {i k a : Nat} (hi : i < 24) (hk : k < 24) (h : yc_tw J i k) {ns : List Nat} (hr : ∀ b ∈ ns, row b i = row b k) : yc nr J ns (yc_nw nr J row a k) = yc nr J ns (yc_nw nr J row a i) := by
  rw [← yc_ren (π := yc_tr i k) (fun j hj => yc_tr_lt hi hk hj) (fun j => yc_tr_tr) (yc_tw_J hJ hx h) (fun f => yc_sum_tr hi hk) (row := yc_nw nr J row a k)]
  refine yc_cg fun b hb j hj => ?_
  have e1 : row b (yc_tr i k j) = row b j := by
    unfold yc_tr
    by_cases c : j = i
    · rw [if_pos c, c, hr b hb]
    · rw [if_neg c]
      by_cases d : j = k
      · rw [if_pos d, d, hr b hb]
      · rw [if_neg d]
  have e2 : Nat.beq (yc_tr i k j) k = Nat.beq j i := by
    rw [Bool.eq_iff_iff, Nat.beq_eq, Nat.beq_eq]
    unfold yc_tr
    (repeat' split) <;> omega
  have e3 : J k (yc_tr i k j) = J i j := by
    have := yc_tw_J hJ hx h i j hi hj
    rw [← this]
    unfold yc_tr
    rw [if_pos rfl]
  unfold yc_nw
  rw [e1, e2, e3]
end
section
/-! Constructors of objects of a law's class: run as if no typed cell were there; what they make gets its types at the end. -/
theorem zb_cell_kept {OB : Nat → Nat} {D : va_G} {DA : Nat → ClassId} {cl : List vw_C} {T : zTp} {H H1 : Heap} {a : Nat} {ty : zTy} (h : z_cell OB D DA cl T H a ty) (e : H1[a]? = H[a]?) : z_cell OB D DA cl T H1 a ty := by
  match ty, h with
  | .inl o, ⟨r, q1, q2, V, q3, q4⟩ => exact ⟨r, q1, q2, V, q3.kept e, q4⟩
  | .inr o, ⟨n, f, z1, z2⟩ => exact ⟨n, f, by rw [e]; exact z1, z2⟩
def zc_seg (o q : Nat × (Nat × Nat) × List ((Nat × Nat) × zV)) : Bool := Nat.beq o.1 q.1 && (Nat.ble q.2.1.1 o.2.1.1 && Nat.ble o.2.1.2 q.2.1.2) && q.2.2.all (fun g => o.2.2.any (fun h => Nat.ble h.1.1 g.1.1 && Nat.ble g.1.2 h.1.2 && (match h.2, g.2 with
  | .inl r, .inl w => z_ile w.1 r.1 && z_ile r.2 w.2
  | .inr (.inr 0), .inr (.inr 0) => true
  | _, _ => false)))
def zc_map (f : List (Nat × Nat)) (u : Nat) : Nat := match f.find? (fun q => Nat.beq q.1 u) with
  | some q => q.2
  | none => u
def zc_okf (TY : List zTy) (f : List (Nat × Nat)) : Bool := (List.range TY.length).all (fun u => match TY[u]? with
  | some (.inr o) => (match TY[zc_map f u]? with
    | some (.inr q) => zc_seg o q
    | _ => false)
  | _ => true)
/-- what a field of the new object holds -/
def zc_fv (st : zS) (ci k : Nat) : Option zV := match z_ffind st 0 ci k with
  | some w => z_get (z_V st) w
  | none => none
def zc_fld (TY : List zTy) (f : List (Nat × Nat)) (st : zS) (ci k : Nat) (c : zV) : Bool := match zc_fv st ci k with
  | some (.inl r) => (match c with
    | .inl q => z_ile q.1 r.1 && z_ile r.2 q.2
    | _ => false)
  | some (.inr (.inl u)) => (match TY[u]? with
    | some (.inr _) => (match c with
      | .inr (.inl t) => Nat.beq t (zc_map f u)
      | _ => false)
    | _ => false)
  | _ => false
def zc_a0 (TY : List zTy) (st : zS) (ci k : Nat) : Bool := match zc_fv st ci k with
  | some (.inr (.inl u)) => (match TY[u]? with
    | some (.inr q) => Nat.beq q.1 0
    | _ => false)
  | _ => false
def zc_zr (TY : List zTy) (st : zS) (ci k : Nat) : Bool := match zc_fv st ci k with
  | some (.inr (.inl u)) => (match TY[u]? with
    | some (.inr q) => Nat.beq q.1 0 && Nat.ble 200 q.2.1.1 && q.2.2.any (fun g => Nat.beq g.1.1 0 && Nat.ble 199 g.1.2 && (match g.2 with
      | .inl r => z_ile 0 r.1 && z_ile r.2 0
      | _ => false))
    | _ => false)
  | _ => false
def zc_c0 (st : zS) (ci k : Nat) : Bool := match zc_fv st ci k with
  | some (.inl r) => z_ile 0 r.1 && z_ile r.2 0
  | _ => false
def zc_J (TY : List zTy) (st : zS) (ci : Nat) : Bool := (!(Nat.beq ci 12) || (zc_c0 st 12 13 && (zc_a0 TY st 12 20 && zc_a0 TY st 12 22 && (zc_a0 TY st 12 23 && zc_a0 TY st 12 24)))) && (!(Nat.beq ci 4) || (zc_zr TY st 4 0 && zc_zr TY st 4 1))
def zc_fin (TY : List zTy) (cl : List vw_C) (f : List (Nat × Nat)) (ci tau : Nat) (mk : Nat × Nat) (st : zS) : Bool :=
  ((z_S st).isEmpty && (Nat.ble (z_C st).1 mk.1 && Nat.ble (z_C st).2 mk.2)) && ((z_X st).any (fun q => Nat.beq q.1 0 && Nat.beq q.2 ci) && zc_J TY st ci) && (match TY[tau]?, cl[ci]? with
    | some (.inl o), some r => Nat.beq o.1 ci && Nat.beq o.2.length r.2.2 && (List.range o.2.length).all (fun k => match o.2[k]? with
      | some c => zc_fld TY f st ci k c
      | none => false)
    | _, _ => false)
section ZCONS
variable {OB : Nat → Nat} {D : va_G} {DA : Nat → ClassId} {cl : List vw_C} {FT : Nat → Nat → FieldType} {TY : List zTy} {PHI : List (List Nat)} {sz : Nat} {raw : Option Nat} {pu : Bool} {T0 T : zTp} {H0 H : Heap} {env0 env : List Value} {nL : Nat} {st : zS} {locs : List Loc} {ls : Array Slot} {stk : List Value}
/-- the types at the end -/
def zc_T (TY : List zTy) (f : List (Nat × Nat)) (a tau : Nat) (T0 T : zTp) : zTp := fun q => if q = a then some tau else match T0 q with
  | some t => some t
  | none => (match T q with
    | some u => (match TY[u]? with
      | some (.inr _) => some (zc_map f u)
      | _ => none)
    | none => none)
theorem zc_T_at {f : List (Nat × Nat)} {a tau : Nat} : zc_T TY f a tau T0 T a = some tau := by unfold zc_T; rw [if_pos rfl]
theorem zc_T_old {f : List (Nat × Nat)} {a tau q t : Nat} (h : q ≠ a) (ht : T0 q = some t) : zc_T TY f a tau T0 T q = some t := by
  unfold zc_T; rw [if_neg h, ht]
theorem zc_T_new {f : List (Nat × Nat)} {a tau q u : Nat} {o : Nat × (Nat × Nat) × List ((Nat × Nat) × zV)} (h : q ≠ a) (h0 : T0 q = none) (ht : T q = some u) (hu : TY[u]? = some (.inr o)) : zc_T TY f a tau T0 T q = some (zc_map f u) := by
  unfold zc_T; rw [if_neg h, h0, ht]
  show (match TY[u]? with
      | some (.inr _) => some (zc_map f u)
      | _ => none) = _
  rw [hu]
theorem zc_T_inv {f : List (Nat × Nat)} {a tau q t : Nat} (h : zc_T TY f a tau T0 T q = some t) : (q = a ∧ t = tau) ∨ (q ≠ a ∧ T0 q = some t) ∨ (q ≠ a ∧ T0 q = none ∧ ∃ u o, T q = some u ∧ TY[u]? = some (.inr o) ∧ t = zc_map f u) := by
  unfold zc_T at h
  by_cases e : q = a
  · rw [if_pos e] at h
    exact Or.inl ⟨e, (Option.some.inj h).symm⟩
  · rw [if_neg e] at h
    split at h
    · rename_i t0 ht0
      exact Or.inr (Or.inl ⟨e, ht0.trans h⟩)
    · rename_i ht0
      split at h
      · rename_i u hu
        split at h
        · rename_i o ho
          exact Or.inr (Or.inr ⟨e, ht0, u, o, hu, ho, (Option.some.inj h).symm⟩)
        · cases h
      · cases h
theorem zc_fv_ok {ci k : Nat} {c : zV} (h : zc_fv st ci k = some c) (hs : z_sat OB D DA cl TY PHI sz raw pu T0 H0 env0 nL st T H locs env ls stk) : ∃ (a : Nat) (v : Value), env[0]? = some (.ref a) ∧ z_sl H a (D.2 ci k) v ∧ z_v OB T c v := by
  unfold zc_fv at h
  split at h
  · rename_i w hw
    obtain ⟨a, v, e1, e2, e3⟩ := z_ffind_ok hw hs
    obtain ⟨v2, e4, e5⟩ := z_get_ok hs.2.2.2.2.1 h
    rw [e2] at e4
    cases e4
    exact ⟨a, v, e1, e3, e5⟩
  · cases h
theorem zc_fld_ok {f : List (Nat × Nat)} {ci k : Nat} {c : zV} (h : zc_fld TY f st ci k c = true) : (∃ r q, zc_fv st ci k = some (.inl r) ∧ c = .inl q ∧ z_ile q.1 r.1 = true ∧ z_ile r.2 q.2 = true) ∨ (∃ u o, zc_fv st ci k = some (.inr (.inl u)) ∧ TY[u]? = some (.inr o) ∧ c = .inr (.inl (zc_map f u))) := by
  unfold zc_fld at h
  split at h
  · rename_i r hr
    split at h
    · rename_i q
      rw [Bool.and_eq_true] at h
      exact Or.inl ⟨r, q, hr, rfl, h.1, h.2⟩
    · cases h
  · rename_i u hu
    split at h
    · rename_i o ho
      split at h
      · rename_i t
        have et : t = zc_map f u := z_beq h
        subst et
        exact Or.inr ⟨u, o, hu, ho, rfl⟩
      · cases h
    · cases h
  · cases h
/-- the run's cells: new ones -/
theorem zc_new {a q u : Nat} (hs : z_sat OB D DA cl TY PHI sz (some a) false (fun _ => none) H0 env0 nL st T H locs env ls stk) (hTa : T a = none) (h : T q = some u) : H0.size ≤ q ∧ q ≠ a := by
  have hm := hs.2.2.2.2.2.2.2.2.2.2.2.2.1
  refine ⟨?_, fun e => by rw [e, hTa] at h; cases h⟩
  rcases Nat.lt_or_ge q H0.size with lt | ge
  · have := (hm q lt rfl (fun e => by cases e; rw [hTa] at h; cases h)).1
    rw [this] at h
    cases h
  · exact ge
theorem zc_arr {f : List (Nat × Nat)} {q u : Nat} {o : Nat × (Nat × Nat) × List ((Nat × Nat) × zV)} {T2 : zTp} (hf : zc_okf TY f = true) (hu : TY[u]? = some (.inr o)) (hc : z_cell OB D DA cl T H q (.inr o)) : ∃ o2, TY[zc_map f u]? = some (.inr o2) ∧ z_cell OB D DA cl T2 H q (.inr o2) := by
  have h1 := List.all_eq_true.mp hf u (List.mem_range.mpr (List.getElem?_eq_some_iff.mp hu).1)
  rw [hu] at h1
  simp only at h1
  split at h1
  · rename_i o2 ho2
    refine ⟨o2, ho2, ?_⟩
    unfold zc_seg at h1
    simp only [Bool.and_eq_true] at h1
    obtain ⟨⟨e1, e2, e3⟩, e4⟩ := h1
    obtain ⟨n, g, z1, z2, z3, z4, z5⟩ := hc
    have l2 := Nat.le_of_ble_eq_true e2
    have l3 := Nat.le_of_ble_eq_true e3
    refine ⟨n, g, by rw [← z_beq e1]; exact z1, by omega, by omega, z4, fun s hs j j1 j2 j3 => ?_⟩
    obtain ⟨s2, k1, k2⟩ := List.any_eq_true.mp (List.all_eq_true.mp e4 s hs)
    simp only [Bool.and_eq_true] at k2
    obtain ⟨⟨k3, k4⟩, k5⟩ := k2
    have m3 := Nat.le_of_ble_eq_true k3
    have m4 := Nat.le_of_ble_eq_true k4
    have hv := z5 s2 k1 j j1 (by omega) (by omega)
    split at k5
    · rename_i r w hr hw
      rw [hr] at hv
      rw [hw]
      rw [Bool.and_eq_true] at k5
      obtain ⟨x, ex, hx⟩ := hv
      exact ⟨x, ex, z_in_le (z_ile_ok k5.1) (z_ile_ok k5.2) hx⟩
    · rename_i hr hw
      rw [hr] at hv
      rw [hw]
      exact hv
    · cases k5
  · cases h1
/-- the heap at the end is typed -/
theorem zc_ht {f : List (Nat × Nat)} {a tau ci : Nat} {T1 : zTp} {mk : Nat × Nat} (hf : zc_okf TY f = true) (h0 : z_ht OB D DA cl TY T1 H0) (hTa1 : T1 a = none) (hs : z_sat OB D DA cl TY PHI sz (some a) false (fun _ => none) H0 env0 nL st T H locs env ls stk) (he : env[0]? = some (.ref a)) (hfin : zc_fin TY cl f ci tau mk st = true) : z_ht OB D DA cl TY (zc_T TY f a tau T1 T) H := by
  unfold zc_fin at hfin
  simp only [Bool.and_eq_true] at hfin
  obtain ⟨⟨-, hX, hJ⟩, hF⟩ := hfin
  obtain ⟨q0, hq0, hq1⟩ := List.any_eq_true.mp hX
  rw [Bool.and_eq_true] at hq1
  obtain ⟨a2, x1, x2, x3, r, V, x4, x5⟩ := z_fx_in hs.2.2.2.2.2.2.2.2.1 q0 hq0
  rw [z_beq hq1.1, he] at x1
  have ea : a = a2 := by cases x1; rfl
  subst ea
  have eci : q0.2 = ci := z_beq hq1.2
  rw [eci] at x4 x5
  have hm := hs.2.2.2.2.2.2.2.2.2
  have old : ∀ q t, T1 q = some t → q ≠ a ∧ H[q]? = H0[q]? ∧ q < H0.size := by
    intro q t ht
    obtain ⟨ty, y1, y2⟩ := h0.1 q t ht
    have lt := z_cell_lt y2
    have hne : q ≠ a := fun e => by rw [e, hTa1] at ht; cases ht
    exact ⟨hne, (hm.2.2.2.1 q lt rfl (fun e => by cases e; exact hne rfl)).2, lt⟩
  have new : ∀ q u, T q = some u → H0.size ≤ q ∧ q ≠ a ∧ T1 q = none := by
    intro q u hu
    obtain ⟨n1, n2⟩ := zc_new hs x2 hu
    refine ⟨n1, n2, ?_⟩
    cases hT : T1 q with
    | none => rfl
    | some t => have := (old q t hT).2.2; omega
  have fv : ∀ {k : Nat} {c : zV}, zc_fv st ci k = some c → ∃ v, z_sl H a (D.2 ci k) v ∧ z_v OB T c v := by
    intro k c hc
    obtain ⟨a3, v, e1, e2, e3⟩ := zc_fv_ok hc hs
    rw [he] at e1
    have : a = a3 := by cases e1; rfl
    subst this
    exact ⟨v, e2, e3⟩
  split at hF
  · rename_i o r2 ho hr2
    rw [x4] at hr2
    cases hr2
    obtain ⟨oc, fl⟩ := o
    rw [Bool.and_eq_true, Bool.and_eq_true] at hF
    obtain ⟨⟨f1, f2⟩, f3⟩ := hF
    have eoc : oc = ci := z_beq f1
    subst eoc
    have hcell : z_cell OB D DA cl (zc_T TY f a tau T1 T) H a (.inl (oc, fl)) := by
      refine ⟨r, x4, z_beq f2, V, x5, fun k c hk => ?_⟩
      have hk : fl[k]? = some c := hk
      have hlt : k < fl.length := (List.getElem?_eq_some_iff.mp hk).1
      have f4 := List.all_eq_true.mp f3 k (List.mem_range.mpr hlt)
      have f4 : (match fl[k]? with
        | some c => zc_fld TY f st oc k c
        | none => false) = true := f4
      rw [hk] at f4
      have f4 : zc_fld TY f st oc k c = true := f4
      have hV : ∀ v, z_sl H a (D.2 oc k) v → V k = v := by
        intro v hv
        obtain ⟨cell, c1, c2, c3, c4⟩ := x5
        exact zj_fun ⟨cell, c1, c3, c4 k (by rw [← z_beq f2]; exact hlt)⟩ hv
      rcases zc_fld_ok f4 with ⟨rr, qq, hrr, rfl, q1, q2⟩ | ⟨u, o2, hu, ho2, rfl⟩
      · obtain ⟨v, v1, v2⟩ := fv hrr
        rw [hV v v1]
        obtain ⟨x, ex, hx⟩ := v2
        exact ⟨x, ex, z_in_le (z_ile_ok q1) (z_ile_ok q2) hx⟩
      · obtain ⟨v, v1, v2⟩ := fv hu
        rw [hV v v1]
        obtain ⟨b, eb, hb⟩ := v2
        obtain ⟨-, n2, n3⟩ := new b u hb
        exact ⟨b, eb, zc_T_new n2 n3 hb ho2⟩
    have sub : ∀ b t, T1 b = some t → zc_T TY f a tau T1 T b = some t := fun b t hb => zc_T_old (old b t hb).1 hb
    have base : ∀ q t, zc_T TY f a tau T1 T q = some t → ∃ ty, TY[t]? = some ty ∧ z_cell OB D DA cl (zc_T TY f a tau T1 T) H q ty := by
      intro q t hq
      rcases zc_T_inv hq with ⟨rfl, rfl⟩ | ⟨e, h1⟩ | ⟨e, h1, u, o2, h2, h3, rfl⟩
      · exact ⟨_, ho, hcell⟩
      · obtain ⟨ty, y1, y2⟩ := h0.1 q t h1
        refine ⟨ty, y1, z_cell_mono (T := T1) (fun b t hb => sub b t hb) ?_⟩
        exact zb_cell_kept y2 (old q t h1).2.1
      · obtain ⟨ty, y1, y2⟩ := hm.1.1 q u h2
        rw [h3] at y1
        cases y1
        obtain ⟨o4, k1, k2⟩ := zc_arr (T2 := zc_T TY f a tau T1 T) hf h3 y2
        exact ⟨_, k1, k2⟩
    have cls : ∀ q t c fl2, zc_T TY f a tau T1 T q = some t → TY[t]? = some (.inl (c, fl2)) → (q = a ∧ c = oc) ∨ (q ≠ a ∧ T1 q = some t) := by
      intro q t c fl2 hq hty
      rcases zc_T_inv hq with ⟨rfl, rfl⟩ | ⟨e, h1⟩ | ⟨e, h1, u, o2, h2, h3, rfl⟩
      · rw [ho] at hty
        cases hty
        exact Or.inl ⟨rfl, rfl⟩
      · exact Or.inr ⟨e, h1⟩
      · obtain ⟨ty, y1, y2⟩ := hm.1.1 q u h2
        rw [h3] at y1
        cases y1
        obtain ⟨o4, k1, k2⟩ := zc_arr (T2 := T) hf h3 y2
        rw [hty] at k1
        cases k1
    have a0 : ∀ {k : Nat}, zc_a0 TY st oc k = true → ∃ (b : Nat) (g : Int → Int), z_sl H a (D.2 oc k) (.ref b) ∧ zj_c (zc_T TY f a tau T1 T) DA H b g ∧ H0.size ≤ b := by
      intro k hk
      unfold zc_a0 at hk
      split at hk
      · rename_i u hu
        obtain ⟨v, v1, b, rfl, v2⟩ := fv hu
        split at hk
        · rename_i o2 ho2
          obtain ⟨n1, n2, n3⟩ := new b u v2
          obtain ⟨ty, y1, y2⟩ := hm.1.1 b u v2
          rw [ho2] at y1
          cases y1
          obtain ⟨n, g, z1, -⟩ := y2
          rw [z_beq hk] at z1
          exact ⟨b, _, v1, ⟨by rw [zc_T_new n2 n3 v2 ho2]; rfl, n, g, z1, rfl⟩, n1⟩
        · cases hk
      · cases hk
    have zr : ∀ {k : Nat}, zc_zr TY st oc k = true → ∃ (b : Nat) (g : Int → Int), z_sl H a (D.2 oc k) (.ref b) ∧ zj_c (zc_T TY f a tau T1 T) DA H b g ∧ H0.size ≤ b ∧ ∀ i : Int, 0 ≤ i → i < 200 → g i = 0 := by
      intro k hk
      unfold zc_zr at hk
      split at hk
      · rename_i u hu
        obtain ⟨v, v1, b, rfl, v2⟩ := fv hu
        split at hk
        · rename_i o2 ho2
          simp only [Bool.and_eq_true] at hk
          obtain ⟨⟨k1, k2⟩, k3⟩ := hk
          obtain ⟨n1, n2, n3⟩ := new b u v2
          obtain ⟨ty, y1, y2⟩ := hm.1.1 b u v2
          rw [ho2] at y1
          cases y1
          obtain ⟨n, g, z1, z2, z3, z4, z5⟩ := y2
          rw [z_beq k1] at z1
          have l2 := Nat.le_of_ble_eq_true k2
          obtain ⟨s, s1, s2⟩ := List.any_eq_true.mp k3
          simp only [Bool.and_eq_true] at s2
          obtain ⟨⟨s3, s4⟩, s5⟩ := s2
          have l4 := Nat.le_of_ble_eq_true s4
          refine ⟨b, _, v1, ⟨by rw [zc_T_new n2 n3 v2 ho2]; rfl, n, g, z1, rfl⟩, n1, fun i i1 i2 => ?_⟩
          have hv := z5 s s1 i.toNat (by omega) (by rw [z_beq s3]; exact Nat.zero_le _) (by omega)
          split at s5
          · rename_i rr hrr
            rw [hrr] at hv
            rw [Bool.and_eq_true] at s5
            obtain ⟨x, ex, hx1, hx2⟩ := hv
            have q1 := z_ile_ok s5.1
            have q2 := z_ile_ok s5.2
            show (match g i.toNat with
              | .int x => x.toInt
              | _ => 0) = 0
            rw [ex]
            show x.toInt = 0
            omega
          · cases s5
        · cases hk
      · cases hk
    unfold zc_J at hJ
    simp only [Bool.and_eq_true] at hJ
    have hobj : zj_obj (zc_T TY f a tau T1 T) D DA H a oc := by
      refine ⟨fun e => ?_, fun e => ?_⟩
      · subst e
        have h1 := hJ.1
        have hb : Nat.beq 12 12 = true := rfl
        simp only [hb, Bool.not_true, Bool.false_or, Bool.and_eq_true] at h1
        obtain ⟨c0, ⟨j1, j2⟩, j3, j4⟩ := h1
        obtain ⟨b1, g1, s1, w1, -⟩ := a0 j1
        obtain ⟨b2, g2, s2, w2, -⟩ := a0 j2
        obtain ⟨b3, g3, s3, w3, -⟩ := a0 j3
        obtain ⟨b4, g4, s4, w4, -⟩ := a0 j4
        unfold zc_c0 at c0
        split at c0
        · rename_i rr hrr
          obtain ⟨v, v1, x, rfl, hx1, hx2⟩ := fv hrr
          rw [Bool.and_eq_true] at c0
          have q1 := z_ile_ok c0.1
          have q2 := z_ile_ok c0.2
          have hx : x.toInt = 0 := by omega
          exact ⟨x, b1, b2, b3, b4, g1, g2, g3, g4, v1, ⟨s1, w1⟩, ⟨s2, w2⟩, ⟨s3, w3⟩, ⟨s4, w4⟩, fun _ => 0, 0, Int.le_refl _, by omega, fun k k1 k2 => absurd k1 (by omega), by omega, by omega, fun q q1 q2 => absurd q1 (by omega)⟩
        · cases c0
      · subst e
        have h1 := hJ.2
        have hb : Nat.beq 4 4 = true := rfl
        simp only [hb, Bool.not_true, Bool.false_or, Bool.and_eq_true] at h1
        obtain ⟨b1, g1, s1, w1, -, e1⟩ := zr h1.1
        obtain ⟨b2, g2, s2, w2, -, e2⟩ := zr h1.2
        refine ⟨b1, b2, g1, g2, ⟨s1, w1⟩, ⟨s2, w2⟩, fun k k1 k2 => ?_⟩
        rw [e1 k k1 k2, e2 k k1 k2]
        exact ⟨by omega, by omega, by omega, by omega, fun _ => by omega⟩
    have fresh : ∀ k ∈ zj_refs oc, ∀ b : Nat, z_sl H a (D.2 oc k) (.ref b) → H0.size ≤ b := by
      intro k hk b hb
      by_cases e : oc = 12
      · subst e
        have h1 := hJ.1
        have hb2 : Nat.beq 12 12 = true := rfl
        simp only [hb2, Bool.not_true, Bool.false_or, Bool.and_eq_true] at h1
        obtain ⟨c0, ⟨j1, j2⟩, j3, j4⟩ := h1
        have hk : k ∈ [20, 22, 23, 24] := hk
        simp only [List.mem_cons, List.not_mem_nil, or_false] at hk
        have fin : ∀ {k2 : Nat}, zc_a0 TY st 12 k2 = true → z_sl H a (D.2 12 k2) (.ref b) → H0.size ≤ b := by
          intro k2 j hb3
          obtain ⟨b1, g1, s1, w1, l1⟩ := a0 j
          have := zj_fun s1 hb3
          cases this
          exact l1
        rcases hk with rfl | rfl | rfl | rfl
        · exact fin j1 hb
        · exact fin j2 hb
        · exact fin j3 hb
        · exact fin j4 hb
      · by_cases e4 : oc = 4
        · subst e4
          have h1 := hJ.2
          have hb2 : Nat.beq 4 4 = true := rfl
          simp only [hb2, Bool.not_true, Bool.false_or, Bool.and_eq_true] at h1
          have hk : k ∈ [0, 1] := hk
          simp only [List.mem_cons, List.not_mem_nil, or_false] at hk
          have fin : ∀ {k2 : Nat}, zc_zr TY st 4 k2 = true → z_sl H a (D.2 4 k2) (.ref b) → H0.size ≤ b := by
            intro k2 j hb3
            obtain ⟨b1, g1, s1, w1, l1, -⟩ := zr j
            have := zj_fun s1 hb3
            cases this
            exact l1
          rcases hk with rfl | rfl
          · exact fin h1.1 hb
          · exact fin h1.2 hb
        · exfalso
          have n1 : Nat.beq oc 12 = false := by
            cases hb : Nat.beq oc 12 with
            | false => rfl
            | true => exact absurd (Nat.eq_of_beq_eq_true hb) e
          have n2 : Nat.beq oc 4 = false := by
            cases hb : Nat.beq oc 4 with
            | false => rfl
            | true => exact absurd (Nat.eq_of_beq_eq_true hb) e4
          unfold zj_refs at hk
          rw [n1, n2] at hk
          exact absurd hk List.not_mem_nil
    have kept : ∀ q t c fl2, T1 q = some t → TY[t]? = some (.inl (c, fl2)) → ∀ k (b : Nat), k ∈ zj_refs c → z_sl H q (D.2 c k) (.ref b) → b < H0.size := by
      intro q t c fl2 hq hty k b hk hb
      obtain ⟨b0, s0⟩ := zj_has (h0.2.1 q t c fl2 hq hty) hk
      have s1 : z_sl H q (D.2 c k) (.ref b0) := by
        obtain ⟨cell, c1, c2⟩ := s0
        exact ⟨cell, by rw [(old q t hq).2.1]; exact c1, c2⟩
      have := zj_fun s1 hb
      cases this
      have ob := h0.2.1 q t c fl2 hq hty
      have some1 : (T1 b).isSome = true := by
        by_cases e : c = 12
        · subst e
          obtain ⟨cs, b1, b2, b3, b4, g1, g2, g3, g4, -, ⟨u1, w1⟩, ⟨u2, w2⟩, ⟨u3, w3⟩, ⟨u4, w4⟩, -⟩ := ob.1 rfl
          have hk : k ∈ [20, 22, 23, 24] := hk
          simp only [List.mem_cons, List.not_mem_nil, or_false] at hk
          rcases hk with rfl | rfl | rfl | rfl
          · have := zj_fun u1 s0; cases this; exact w1.1
          · have := zj_fun u2 s0; cases this; exact w2.1
          · have := zj_fun u3 s0; cases this; exact w3.1
          · have := zj_fun u4 s0; cases this; exact w4.1
        · by_cases e4 : c = 4
          · subst e4
            obtain ⟨b1, b2, g1, g2, ⟨u1, w1⟩, ⟨u2, w2⟩, -⟩ := ob.2 rfl
            have hk : k ∈ [0, 1] := hk
            simp only [List.mem_cons, List.not_mem_nil, or_false] at hk
            rcases hk with rfl | rfl
            · have := zj_fun u1 s0; cases this; exact w1.1
            · have := zj_fun u2 s0; cases this; exact w2.1
          · exfalso
            have n1 : Nat.beq c 12 = false := by
              cases hb : Nat.beq c 12 with
              | false => rfl
              | true => exact absurd (Nat.eq_of_beq_eq_true hb) e
            have n2 : Nat.beq c 4 = false := by
              cases hb : Nat.beq c 4 with
              | false => rfl
              | true => exact absurd (Nat.eq_of_beq_eq_true hb) e4
            unfold zj_refs at hk
            rw [n1, n2] at hk
            exact absurd hk List.not_mem_nil
      cases hT : T1 b with
      | none => rw [hT] at some1; cases some1
      | some u => exact (old b u hT).2.2
    refine ⟨base, fun q t c fl2 hq hty => ?_, fun q q' t t' c fl2 fl2' h1 h2 h3 h4 k hk b h5 h6 => ?_⟩
    · rcases cls q t c fl2 hq hty with ⟨rfl, rfl⟩ | ⟨e, h1⟩
      · exact hobj
      · refine zj_kept (h0.2.1 q t c fl2 h1 hty) (fun b hb => ?_) (fun k hk w hw => ?_) (fun k hk b hb hb2 => ?_)
        · cases hT : T1 b with
          | none => rw [hT] at hb; cases hb
          | some u => rw [sub b u hT]; rfl
        · obtain ⟨cell, c1, c2⟩ := hw
          exact ⟨cell, by rw [(old q t h1).2.1]; exact c1, c2⟩
        · cases hT : T1 b with
          | none => rw [hT] at hb2; cases hb2
          | some u => exact (old b u hT).2.1
    · rcases cls q t c fl2 h1 h2 with ⟨e1, e2⟩ | ⟨e1, g1⟩
      · rcases cls q' t' c fl2' h3 h4 with ⟨e3, e4⟩ | ⟨e3, g3⟩
        · rw [e1, e3]
        · subst e2
          rw [e1] at h5
          have l1 := fresh k hk b h5
          have l2 := kept q' t' _ fl2' g3 h4 k b hk h6
          omega
      · rcases cls q' t' c fl2' h3 h4 with ⟨e3, e4⟩ | ⟨e3, g3⟩
        · subst e4
          rw [e3] at h6
          have l1 := fresh k hk b h6
          have l2 := kept q t _ fl2 g1 h2 k b hk h5
          omega
        · have old5 : z_sl H0 q (D.2 c k) (.ref b) := by
            obtain ⟨cell, c1, c2⟩ := h5
            exact ⟨cell, by rw [← (old q t g1).2.1]; exact c1, c2⟩
          have old6 : z_sl H0 q' (D.2 c k) (.ref b) := by
            obtain ⟨cell, c1, c2⟩ := h6
            exact ⟨cell, by rw [← (old q' t' g3).2.1]; exact c1, c2⟩
          exact h0.2.2 q q' t t' c fl2 fl2' g1 h2 g3 h4 k hk b old5 old6
  · cases hF
end ZCONS
end
section
/-! A constructor's contract. -/
/-- places that are known at the end -/
def zc_nw (cl : List vw_C) (ci : Nat) (st : zS) (nw : List (zLoc × zV)) : Bool := nw.all fun q => (Nat.beq q.1.1 0 && Nat.beq q.1.2.1 ci) && ((match cl[ci]? with
  | some r => Nat.blt q.1.2.2.1 r.2.2
  | none => false) && (match q.1.2.2.2, z_ffind st 0 ci q.1.2.2.1, q.2 with
  | some e, some w, .inl r => (z_E st).any (fun t => Nat.beq t.1 w && (match z_get (z_V st) t.2.1, z_get (z_V st) t.2.2 with
    | some (.inl i), some (.inl v) => (z_ile (e : Nat) i.1 && z_ile i.2 (e : Nat)) && (z_ile r.1 v.1 && z_ile v.2 r.2)
    | _, _ => false))
  | _, _, _ => false))
theorem zc_nw_ok {OB : Nat → Nat} {D : va_G} {DA : Nat → ClassId} {cl : List vw_C} {TY : List zTy} {PHI : List (List Nat)} {sz : Nat} {raw : Option Nat} {pu : Bool} {T0 T : zTp} {H0 H : Heap} {env0 env : List Value} {nL : Nat} {st : zS} {locs : List Loc} {ls : Array Slot} {stk : List Value} {ci a : Nat} {nw : List (zLoc × zV)} (h : zc_nw cl ci st nw = true) (hs : z_sat OB D DA cl TY PHI sz raw pu T0 H0 env0 nL st T H locs env ls stk) (h0 : env[0]? = some (.ref a)) :
    ∀ q ∈ nw, ∃ (x : Int32) (r : zR), (q.1.1 = 0 ∧ z_lv D cl H (some (.ref a)) q.1 (.int x)) ∧ q.2 = .inl r ∧ z_in r x := by
  intro q hq
  have h1 := List.all_eq_true.mp h q hq
  rw [Bool.and_eq_true, Bool.and_eq_true, Bool.and_eq_true] at h1
  obtain ⟨⟨c1, c2⟩, c3, c4⟩ := h1
  split at c3
  · rename_i r0 hr0
    split at c4
    · rename_i e w r he hw hr
      obtain ⟨t, ht, ht2⟩ := List.any_eq_true.mp c4
      rw [Bool.and_eq_true] at ht2
      obtain ⟨d1, d2⟩ := ht2
      split at d2
      · rename_i i v hi hv
        simp only [Bool.and_eq_true] at d2
        obtain ⟨⟨i1, i2⟩, v1, v2⟩ := d2
        obtain ⟨a2, w2, e1, e2, e3⟩ := z_ffind_ok hw hs
        rw [h0] at e1
        cases e1
        obtain ⟨a3, x, w3, f1, f2, f3, f4, f5⟩ := hs.2.2.2.2.2.2.1 t ht
        rw [z_beq d1, e2] at f1
        cases f1
        obtain ⟨xi, g1, xi2, rfl, g2⟩ := z_get_ok hs.2.2.2.2.1 hi
        rw [f2] at g1
        cases g1
        obtain ⟨xv, k1, xv2, rfl, k2⟩ := z_get_ok hs.2.2.2.2.1 hv
        rw [f4] at k1
        cases k1
        have j1 := z_ile_ok i1
        have j2 := z_ile_ok i2
        have j3 := g2.1
        have j4 := g2.2
        have ex : x.toInt.toNat = e := by omega
        rw [ex] at f5
        refine ⟨xv2, r, ⟨z_beq c1, a, r0, rfl, by rw [z_beq c2]; exact hr0, z_blt c3, ?_⟩, hr, z_in_le (z_ile_ok v1) (z_ile_ok v2) k2⟩
        rw [he, z_beq c2]
        exact ⟨a3, e3, f5⟩
      · cases d2
    · cases c4
  · cases c3
def zc_chk (hk : zHk) (TY : List zTy) (PHI : List (List Nat)) (cl : List vw_C) (FT : Nat → Nat → FieldType) (MT : List zM) (SG : List (Nat × zSig)) (RO PHS : List Nat) (mm : zM) (g : zSig) (ce : zCe) (f : List (Nat × Nat)) (ci tau : Nat) (nw : List (zLoc × zV)) : Bool := match z_ent TY cl FT mm.2.2.1 g with
  | some (st0, _) => z_run (z_hst hk (z_stp TY PHI cl FT MT SG RO PHS (z_room g) (g_pur g) mm.2.2.1 ce.1 mm.2.1 (fun st => zc_fin TY cl f ci tau (g_mk g) st && zc_nw cl ci st nw) (fun _ => false))) (z_cut [] (z_n st0) none) ce.2.2 0 st0
  | none => false
abbrev zc_g (k0 : zV) (ci tau : Nat) (nw : List (zLoc × zV)) (mk rm : Nat × Nat) : zSig := ([k0], some ci, [], [([(0, .inr (.inl tau))], none, [], nw)], false, mk, rm, 0)
section ZCONS2
variable {cl : List vw_C} {FT : Nat → Nat → FieldType} {TY : List zTy} {PHI : List (List Nat)} {KXf : (Nat → Nat) → Nat → State → Heap → Prop} {TBL : List Cond} {MT : List zM} {SG : List (Nat × zSig)} {RO PHS : List Nat} {hk : zHk} {mm : zM} {ce : zCe} {f : List (Nat × Nat)} {ci tau : Nat} {k0 : zV} {nw : List (zLoc × zV)} {mk rm : Nat × Nat}
theorem zc_OK (hpl : plainFor mm.1 = true) (hKS : z_KS (Cond.code mm.1 mm.2.1 mm.2.2.1 mm.2.2.2.1 :: TBL) TBL cl FT mm.1.cls MT ce.1) (hin : ∀ j, k_IN ce.1 = some j → mm.1.name = "<init>") (hXp : ∀ OB sz, z_KXp sz (KXf OB sz)) (hPH : ∀ a ∈ PHS, z_phok TY PHI a = true)
    (hok : ∀ g ∈ (k_CA ce.1).filterMap (fun a => SG[a.2]?), ∀ m2, MT[g.1]? = some m2 → z_OK TBL cl FT TY PHI KXf m2.1 m2.2.1 m2.2.2.1 m2.2.2.2.1 g.2) (hH : z_hok TBL cl TY PHI KXf mm (zc_g k0 ci tau nw mk rm) hk) (hret : mm.2.2.2.1 = none) (hf : zc_okf TY f = true) (h0 : zc_chk hk TY PHI cl FT MT SG RO PHS mm (zc_g k0 ci tau nw mk rm) ce f ci tau nw = true) : z_OK TBL cl FT TY PHI KXf mm.1 mm.2.1 mm.2.2.1 mm.2.2.2.1 (zc_g k0 ci tau nw mk rm) := by
  intro l OB D DA sz T
  refine va_MetF (cc := mm.2.1) (maxL := mm.2.2.1) (ret := mm.2.2.2.1) hpl rfl ?_
  intro p e s m args below meth c s₁ B hml hPre
  unfold zc_chk at h0
  split at h0
  · rename_i st0 ws hent
    obtain ⟨vals, e0, hrest⟩ := hPre
    subst e0
    obtain ⟨hl, h1, h2, h3, h4, h5, hsz, hK, hX⟩ := hrest
    obtain ⟨a, r0, V0, a1, a2, a3, a4, a5, a6⟩ := h2 ci rfl
    have hPre2 : z_Pre OB D DA cl FT TY sz (KXf OB sz) (zc_g k0 ci tau nw mk rm) (fun _ => none) vals.toArray s := by
      refine ⟨vals, rfl, hl, fun j c hj hor => ?_, fun ci2 hci2 => ?_, fun q hq => absurd hq List.not_mem_nil, ⟨fun a t ht => absurd ht (by simp), fun a t ci fl ha => absurd ha (by simp), fun a a' t t' ci fl fl' ha => absurd ha (by simp)⟩, fun a t ht => absurd ht (by simp), hsz, hK, hX⟩
      · rcases hor with h | h
        · cases h
        · cases j with
          | zero => exact absurd rfl h
          | succ j =>
            have hj : ([k0] : List zV)[j + 1]? = some c := hj
            simp at hj
      · have e : ci = ci2 := Option.some.inj hci2
        subst e
        exact ⟨a, r0, V0, a1, rfl, a3, a4, a5, a6⟩
    obtain ⟨hcat, hn, env, raw, hraw, hsat, hlen, hvals, hwl, hws⟩ := z_ent_ok (pu := false) (PHI := PHI) hPre2 hent
    have er : raw = some a := (hraw a).mpr ⟨rfl, a1⟩
    subst er
    have hts : ∀ w ∈ (Cond.code mm.1 mm.2.1 mm.2.2.1 mm.2.2.2.1 :: TBL), w.before vals.toArray s = true := atoms_spec (ws := Cond.code mm.1 mm.2.1 mm.2.2.1 mm.2.2.2.1 :: TBL) B.pre
    have hown : s.vm.findClass mm.1.cls = some m.cls := findClass_of_methodNamed B.named
    have hD : z_Dy s m vals.toArray (Cond.code mm.1 mm.2.1 mm.2.2.1 mm.2.2.2.1 :: TBL) mm.1.cls D cl DA (z_tys DA) := ⟨hts, hown, hK, z_tys_ok DA⟩
    have hname : meth.name = mm.1.name := (name_of_methodNamed B.named B.method).1
    rw [lg_entry_eq]
    have he0 : env[0]? = some (.ref a) := hvals 0 _ a1
    have hpos : 0 < z_n st0 := by rw [← hsat.1]; exact (List.getElem?_eq_some_iff.mp he0).1
    refine W.widen (Nat.zero_le _) (Nat.zero_le _) (z_runs (CU := []) (ng := z_n st0) (ends := fun env2 : List Value => env2[0]? = some (Value.ref a)) (fun env1 env2 he hgh => (hgh 0 hpos).trans he) (fun env1 pc st L he hL hall => ?_) (stp := z_hst hk (z_stp TY PHI cl FT MT SG RO PHS (z_room (zc_g k0 ci tau nw mk rm)) false mm.2.2.1 ce.1 mm.2.1 (fun st => zc_fin TY cl f ci tau mk st && zc_nw cl ci st nw) (fun _ => false))) (fuel := ce.2.2) rfl h0 he0 (by rw [hsat.1]; exact Nat.le_refl _) hsat)
    unfold z_hst at hL
    split at hL
    · rename_i L2 hL2
      cases hL
      exact hH p l e s m vals.toArray below meth c _ OB D DA sz (some a) (fun _ => none) s.heap env1 (fun pc st => ∀ T2 H2 locs2 env2 ls2 stk2, z_sat OB D DA cl TY PHI sz (some a) false (fun _ => none) s.heap env1 mm.2.2.1 st T2 H2 locs2 env2 ls2 stk2 → W p l e (z_room (zc_g k0 ci tau nw mk rm)) s m vals.toArray below meth c H2 locs2 (z_C st).1 (z_C st).2 (MQ below (z_Post OB D DA cl TY PHI sz (zc_g k0 ci tau nw mk rm) T) vals.toArray s mk.1 mk.2 (fun q => sz ≤ q)) (F0 m pc ls2 stk2)) (fun _ _ => Iff.rfl) B.exec B.bytes hml hD hsz hX pc st L hL2 hall
    refine z_stp_ok (good := fun pc st => ∀ T2 H2 locs2 env2 ls2 stk2, z_sat OB D DA cl TY PHI sz (some a) false (fun _ => none) s.heap env1 mm.2.2.1 st T2 H2 locs2 env2 ls2 stk2 → W p l e (z_room (zc_g k0 ci tau nw mk rm)) s m vals.toArray below meth c H2 locs2 (z_C st).1 (z_C st).2 (MQ below (z_Post OB D DA cl TY PHI sz (zc_g k0 ci tau nw mk rm) T) vals.toArray s mk.1 mk.2 (fun q => sz ≤ q)) (F0 m pc ls2 stk2)) (fun _ _ => Iff.rfl) B.exec B.bytes hml hD hsz (hXp OB sz) hX hKS (fun j hj => by rw [hname]; exact hin j hj) hPH hok (fun pc st hd hfin => ?_) (fun pc st hd hfin => by cases hfin) hL hall
    intro T2 H2 locs2 env2 ls2 stk2 hs
    have he2 : env2[0]? = some (.ref a) := by
      obtain ⟨w, hw⟩ := hs.2.1
      rw [hw]; exact z_app he
    rw [Bool.and_eq_true] at hfin
    obtain ⟨hfin, hnw⟩ := hfin
    have hht := zc_ht hf h4 a2 hs he2 hfin
    have hfin2 := hfin
    unfold zc_fin at hfin2
    simp only [Bool.and_eq_true] at hfin2
    obtain ⟨⟨⟨g1, g2, g3⟩, g4, -⟩, -⟩ := hfin2
    obtain ⟨q0, hq0, hq1⟩ := List.any_eq_true.mp g4
    rw [Bool.and_eq_true] at hq1
    obtain ⟨b2, x1, x2, x3, -⟩ := z_fx_in hs.2.2.2.2.2.2.2.2.1 q0 hq0
    rw [z_beq hq1.1, he2] at x1
    have ea : a = b2 := by cases x1; rfl
    subst ea
    have hm := hs.2.2.2.2.2.2.2.2.2
    have hk2 := hs.2.2.2.1
    rw [List.isEmpty_iff.mp g1] at hk2
    have hk2 : stk2 = [] := hk2
    subst hk2
    have hr : meth.sig.returnType = none := B.returns.trans hret
    have lt : ∀ q t, T q = some t → q < s.heap.size ∧ q ≠ a := by
      intro q t ht
      obtain ⟨ty, y1, y2⟩ := h4.1 q t ht
      exact ⟨z_cell_lt y2, fun e => by rw [e, a2] at ht; cases ht⟩
    refine W.widen (Nat.le_of_ble_eq_true g2) (Nat.le_of_ble_eq_true g3) (W.vret B.exec B.bytes hr (fun t ht _ => ?_) (fun q hq => hm.2.2.2.2.2.2 q hq) hd B.notSynchronized)
    refine ⟨vals, none, zc_T TY f a tau T T2, rfl, rfl, by rw [ht]; exact hht, fun q u hq => ?_, fun q u hq => zc_T_old (lt q u hq).2 hq, fun q hq1 hq2 hq3 => ?_, by rw [ht]; exact hm.2.2.2.2.1, fun q hq1 hq2 => by rw [ht]; exact hm.2.2.2.2.2.1 q hq1 hq2, ⟨fun h => (by cases h), fun q u c fl hq hty => ⟨u, fl, zc_T_old (lt q u hq).2 hq, hty, fun r k w y1 y2 y3 y4 => ?_⟩⟩, _, List.mem_singleton.mpr rfl, fun q hq => ?_, trivial, fun q hq => ?_, fun i q h hi => ?_⟩
    · rcases zc_T_inv hq with ⟨rfl, rfl⟩ | ⟨e, g⟩ | ⟨e, g, u2, o, g2, g3, rfl⟩
      · exact a3
      · exact h5 q u g
      · exact hm.2.1.1 q u2 g2
    · have hne : q ≠ a := fun e => hq3 rfl (by rw [e]; exact a1)
      have hun := hm.2.2.2.1 q hq1 rfl (fun e => by cases e; exact hne rfl)
      refine ⟨?_, by rw [ht]; exact hun.2⟩
      cases hT : zc_T TY f a tau T T2 q with
      | none => rfl
      | some u =>
        rcases zc_T_inv hT with ⟨e, -⟩ | ⟨-, g⟩ | ⟨-, -, u2, o, g2, -⟩
        · exact absurd e hne
        · rw [hq2] at g; cases g
        · rw [hun.1] at g2; cases g2
    · obtain ⟨l1, l2⟩ := lt q u hq
      have hun := hm.2.2.2.1 q l1 rfl (fun e => by cases e; exact l2 rfl)
      obtain ⟨cell, c1, c2⟩ := y4
      exact ⟨cell, by rw [ht, hun.2]; exact c1, c2⟩
    · have hq : q ∈ ([(0, .inr (.inl tau))] : List (Nat × zV)) := hq
      rw [List.mem_singleton.mp hq]
      exact ⟨_, a1, a, rfl, zc_T_at⟩
    · obtain ⟨x, r, n1, n2, n3⟩ := zc_nw_ok hnw hs he2 q hq
      rw [ht]
      refine ⟨.int x, ?_, by rw [n2]; exact ⟨x, rfl, n3⟩⟩
      obtain ⟨n0, n4⟩ := n1
      rw [n0, a1]
      exact n4
    · have hi : ([] : List (zLoc × zV))[i]? = some q := hi
      simp at hi
  · cases h0
end ZCONS2
end
section
/-! The law from its entry to its head: what is made there. -/
def zy_nw (cl : List vw_C) (d : Nat) (st : zS) (nw : List (zLoc × zV)) : Bool := nw.all fun q => (match cl[q.1.2.1]? with
  | some r => Nat.blt q.1.2.2.1 r.2.2
  | none => false) && (match q.1.2.2.2, z_ffind st d q.1.2.1 q.1.2.2.1, q.2 with
  | some e, some w, .inl r => (z_E st).any (fun t => Nat.beq t.1 w && (match z_get (z_V st) t.2.1, z_get (z_V st) t.2.2 with
    | some (.inl i), some (.inl v) => (z_ile (e : Nat) i.1 && z_ile i.2 (e : Nat)) && (z_ile r.1 v.1 && z_ile v.2 r.2)
    | _, _ => false))
  | _, _, _ => false)
theorem zy_nw_ok {OB : Nat → Nat} {D : va_G} {DA : Nat → ClassId} {cl : List vw_C} {TY : List zTy} {PHI : List (List Nat)} {sz : Nat} {raw : Option Nat} {pu : Bool} {T0 T : zTp} {H0 H : Heap} {env0 env : List Value} {nL : Nat} {st : zS} {locs : List Loc} {ls : Array Slot} {stk : List Value} {d a : Nat} {nw : List (zLoc × zV)} (h : zy_nw cl d st nw = true) (hs : z_sat OB D DA cl TY PHI sz raw pu T0 H0 env0 nL st T H locs env ls stk) (h0 : env[d]? = some (.ref a)) :
    ∀ q ∈ nw, ∃ (x : Int32) (r : zR), z_lv D cl H (some (.ref a)) q.1 (.int x) ∧ q.2 = .inl r ∧ z_in r x := by
  intro q hq
  have h1 := List.all_eq_true.mp h q hq
  rw [Bool.and_eq_true] at h1
  obtain ⟨c3, c4⟩ := h1
  split at c3
  · rename_i r0 hr0
    split at c4
    · rename_i e w r he hw hr
      obtain ⟨t, ht, ht2⟩ := List.any_eq_true.mp c4
      rw [Bool.and_eq_true] at ht2
      obtain ⟨d1, d2⟩ := ht2
      split at d2
      · rename_i i v hi hv
        simp only [Bool.and_eq_true] at d2
        obtain ⟨⟨i1, i2⟩, v1, v2⟩ := d2
        obtain ⟨a2, w2, e1, e2, e3⟩ := z_ffind_ok hw hs
        rw [h0] at e1
        cases e1
        obtain ⟨a3, x, w3, f1, f2, f3, f4, f5⟩ := hs.2.2.2.2.2.2.1 t ht
        rw [z_beq d1, e2] at f1
        cases f1
        obtain ⟨xi, g1, xi2, rfl, g2⟩ := z_get_ok hs.2.2.2.2.1 hi
        rw [f2] at g1
        cases g1
        obtain ⟨xv, k1, xv2, rfl, k2⟩ := z_get_ok hs.2.2.2.2.1 hv
        rw [f4] at k1
        cases k1
        have j1 := z_ile_ok i1
        have j2 := z_ile_ok i2
        have j3 := g2.1
        have j4 := g2.2
        have ex : x.toInt.toNat = e := by omega
        rw [ex] at f5
        refine ⟨xv2, r, ⟨a, r0, rfl, hr0, z_blt c3, ?_⟩, hr, z_in_le (z_ile_ok v1) (z_ile_ok v2) k2⟩
        rw [he]
        exact ⟨a3, e3, f5⟩
      · cases d2
    · cases c4
  · cases c3
def zy_fit (cl : List vw_C) (tx tm : Nat) (mk : Nat × Nat) (nw : List (zLoc × zV)) (st : zS) : Bool := match z_loc (z_L st) 0, z_loc (z_L st) 1, z_loc (z_L st) 2, z_loc (z_L st) 3 with
  | some d0, some d1, some d2, some d3 => (match z_get (z_V st) d1, z_get (z_V st) d2, z_get (z_V st) d3 with
    | some (.inr (.inl t1)), some (.inr (.inl t2)), some (.inl r) => (Nat.beq t1 tx && Nat.beq t2 tm) && (z_ile 0 r.1 && z_ile r.2 0)
    | _, _, _ => false) && ((Nat.beq d0 0 && (z_S st).isEmpty) && ((Nat.ble (z_C st).1 mk.1 && Nat.ble (z_C st).2 mk.2) && zy_nw cl d2 st nw))
  | _, _, _, _ => false
def zy_hs (cl : List vw_C) (hpc tx tm : Nat) (mk : Nat × Nat) (nw : List (zLoc × zV)) : zHk := fun pc st => cond (Nat.beq pc hpc && zy_fit cl tx tm mk nw st) (some []) none
def zy_chk (TY : List zTy) (PHI : List (List Nat)) (cl : List vw_C) (FT : Nat → Nat → FieldType) (MT : List zM) (SG : List (Nat × zSig)) (PHS : List Nat) (R : Room) (nL mc ms : Nat) (cc : ByteArray) (ce : zCe) (hpc tx tm : Nat) (mk : Nat × Nat) (nw : List (zLoc × zV)) (N : Int) : Bool := z_run (zm_stp TY PHI cl FT MT SG PHS R nL mc ms cc ce.1 (zy_hs cl hpc tx tm mk nw)) (z_cut [] 2 none) ce.2.2 0 (zm_st0 N)
/-- what stands at the head: the objects, by their types -/
def zy_H (OB : Nat → Nat) (D : va_G) (DA : Nat → ClassId) (cl : List vw_C) (TY : List zTy) (sz : Nat) (H0 : Heap) (nL b tx tm : Nat) (nw : List (zLoc × zV)) (T : zTp) (H : Heap) (locs : List Loc) (ls : Array Slot) (x m : Nat) : Prop :=
  (z_ht OB D DA cl TY T H ∧ (∀ a t, T a = some t → sz ≤ a) ∧ va_S (fun q => sz ≤ q) H0 H locs) ∧ (T x = some tx ∧ T m = some tm) ∧
  (∃ lv, lv_has ls nL lv ∧ (∀ q ∈ lv, q.2.category = 1) ∧ (0, Value.ref b) ∈ lv ∧ (1, Value.ref x) ∈ lv ∧ (2, Value.ref m) ∈ lv ∧ (3, Value.int 0) ∈ lv) ∧
  ∀ q ∈ nw, ∃ (y : Int32) (r : zR), z_lv D cl H (some (.ref m)) q.1 (.int y) ∧ q.2 = .inl r ∧ z_in r y
section ZYSTART
variable {p : Program} {l : Launch} {e : Env} {R : Room} {s : State} {m : MethodId} {args : Array Value} {below : List Frame} {meth : Method} {c : Code} {Q : State → Prop} {cc : ByteArray}
variable {OB : Nat → Nat} {D : va_G} {DA : Nat → ClassId} {cl : List vw_C} {FT : Nat → Nat → FieldType} {TY : List zTy} {PHI : List (List Nat)} {nL : Nat} {KXf : (Nat → Nat) → Nat → State → Heap → Prop}
variable {TBL : List Cond} {own : String} {MT : List zM} {SG : List (Nat × zSig)} {PHS : List Nat} {ce : zCe} {mc ms : Nat} {b L N : Nat} {xs : Nat → Int32} {hpc tx tm : Nat} {mk : Nat × Nat} {nw : List (zLoc × zV)}
theorem zy_start (hx : p.tables.exec = Jvm.exec) (hb : c.code = cc) (hml : c.maxLocals = nL) (hN : N ≤ 100000) (hL : L ≤ N) (hOB : OB 0 = b) (hD : z_Dy s m args TBL own D cl DA (z_tys DA)) (hXp : z_KXp s.heap.size (KXf OB s.heap.size)) (hKX : KXf OB s.heap.size s s.heap) (hKS : z_KS TBL TBL cl FT own MT ce.1) (hin : k_IN ce.1 = none) (hPH : ∀ a ∈ PHS, z_phok TY PHI a = true)
    (hok : ∀ g ∈ (k_CA ce.1).filterMap (fun a => SG[a.2]?), ∀ m2, MT[g.1]? = some m2 → z_OK TBL cl FT TY PHI KXf m2.1 m2.2.1 m2.2.2.1 m2.2.2.2.1 g.2) (hend : ∀ pc H ls, decode cc pc = .ok (.ireturn, 1) → W p l e R s m args below meth c H [] mc ms Q (F0 m pc ls [.int 1]))
    (hS : zy_chk TY PHI cl FT MT SG PHS R nL mc ms cc ce hpc tx tm mk nw (N : Int) = true)
    (hI : ∀ T H locs ls x m2, zy_H OB D DA cl TY s.heap.size s.heap nL b tx tm nw T H locs ls x m2 → W p l e R s m args below meth c H locs mk.1 mk.2 Q (F0 m hpc ls []))
    {ls : Array Slot} (hls : z_ls nL ls [.ref b, .int (Int32.ofNat L)] [(0, 0)]) : W p l e R s m args below meth c s.heap [] 0 0 Q (F0 m 0 ls []) := by
  have hLi : (Int32.ofNat L).toInt = (L : Int) := Int32.toInt_ofNat_of_lt (by omega)
  have hsat : z_sat OB D DA cl TY PHI s.heap.size none false (fun _ => none) s.heap [.ref b, .int (Int32.ofNat L)] nL (zm_st0 (N : Int)) (fun _ => none) s.heap [] [.ref b, .int (Int32.ofNat L)] ls [] := by
    refine ⟨rfl, ⟨[], by rw [List.append_nil]⟩, hls, rfl, fun q hq => ?_, fun q hq => absurd hq List.not_mem_nil, fun q hq => absurd hq List.not_mem_nil, fun q hq => absurd hq List.not_mem_nil, trivial, ⟨fun a t ht => absurd ht (by simp), fun a t ci fl ha => absurd ha (by simp), fun a a' t t' ci fl fl' ha => absurd ha (by simp)⟩, ⟨fun a t ht => absurd ht (by simp), fun h => absurd h (by simp), z_fin_rf⟩, fun a t ht => absurd ht (by simp), fun q _ _ _ => ⟨rfl, rfl⟩, va_S.rf⟩
    rcases List.mem_cons.mp hq with rfl | hq
    · exact ⟨_, rfl, by show _ = Value.ref (OB 0); rw [hOB]⟩
    rcases List.mem_cons.mp hq with rfl | hq
    · exact ⟨_, rfl, _, rfl, by rw [z_in, hLi]; exact ⟨by show (0 : Int) ≤ _; omega, by show _ ≤ (N : Int); omega⟩⟩
    cases hq
  refine z_runs (CU := []) (ng := 2) (ends := fun env : List Value => env[0]? = some (Value.ref b) ∧ env[1]? = some (Value.int (Int32.ofNat L))) (fun env1 env2 he hgh => ⟨(hgh 0 (by omega)).trans he.1, (hgh 1 (by omega)).trans he.2⟩) (fun env1 pc st Ls he hL2 hall => ?_) (stp := zm_stp TY PHI cl FT MT SG PHS R nL mc ms cc ce.1 (zy_hs cl hpc tx tm mk nw)) (fuel := ce.2.2) rfl hS ⟨rfl, rfl⟩ (Nat.le_refl _) hsat
  have hgg : z_Good p l e R s m args below meth c Q OB D DA cl TY PHI s.heap.size none false (fun _ => none) s.heap env1 nL (fun pc st => ∀ T2 H2 locs2 env2 ls2 stk2, z_sat OB D DA cl TY PHI s.heap.size none false (fun _ => none) s.heap env1 nL st T2 H2 locs2 env2 ls2 stk2 → W p l e R s m args below meth c H2 locs2 (z_C st).1 (z_C st).2 Q (F0 m pc ls2 stk2)) := fun _ _ => Iff.rfl
  unfold zm_stp z_hst at hL2
  split at hL2
  · rename_i L3 hL3
    cases hL2
    unfold zy_hs at hL3
    obtain ⟨hc, -⟩ := z_cond hL3
    rw [Bool.and_eq_true] at hc
    have hpc2 := z_beq hc.1
    subst hpc2
    intro T H locs env ls2 stk hs
    have hf := hc.2
    unfold zy_fit at hf
    split at hf
    · rename_i d0 d1 d2 d3 l0 l1 l2 l3
      simp only [Bool.and_eq_true] at hf
      obtain ⟨hv, ⟨h0, hS0⟩, ⟨c1, c2⟩, hnw⟩ := hf
      split at hv
      · rename_i t1 t2 r v1 v2 v3
        simp only [Bool.and_eq_true] at hv
        obtain ⟨⟨e1, e2⟩, r1, r2⟩ := hv
        obtain ⟨w1, x1, a1, rfl, y1⟩ := z_get_ok hs.2.2.2.2.1 v1
        obtain ⟨w2, x2, a2, rfl, y2⟩ := z_get_ok hs.2.2.2.2.1 v2
        obtain ⟨w3, x3, a3, rfl, y3⟩ := z_get_ok hs.2.2.2.2.1 v3
        have k1 := z_ile_ok r1
        have k2 := z_ile_ok r2
        have k3 := y3.1
        have k4 := y3.2
        have ea : a3 = 0 := z_int0 (by omega)
        subst ea
        obtain ⟨lv, m1, m2, m3⟩ := hs.2.2.1
        obtain ⟨w, hw⟩ := hs.2.1
        have mem : ∀ {i d : Nat} {v : Value}, z_loc (z_L st) i = some d → env[d]? = some v → (i, v) ∈ lv := fun hl he => by
          obtain ⟨v, q1, q2⟩ := m3 _ (z_loc_mem hl)
          have q1 : env[_]? = some v := q1
          rw [he] at q1
          cases q1
          exact q2
        have hk := hs.2.2.2.1
        rw [List.isEmpty_iff.mp hS0] at hk
        have hk : stk = [] := hk
        subst hk
        have hm := hs.2.2.2.2.2.2.2.2.2
        have hb0 : env[d0]? = some (Value.ref b) := by rw [z_beq h0, hw]; exact z_app he.1
        exact W.widen (Nat.le_of_ble_eq_true c1) (Nat.le_of_ble_eq_true c2) (hI T H locs ls2 a1 a2 ⟨⟨hm.1, hm.2.1.1, hm.2.2.2.2⟩, ⟨by rw [y1, z_beq e1], by rw [y2, z_beq e2]⟩, ⟨lv, m1, m2, mem l0 hb0, mem l1 x1, mem l2 x2, mem l3 x3⟩, zy_nw_ok hnw hs x2⟩)
      · cases hv
    · cases hf
  · exact z_stp_ok hgg hx hb hml hD (Nat.le_refl _) hXp hKX hKS (fun j hj => by rw [hin] at hj; cases hj) hPH hok (fun pc st hd hf => by cases hf) (fun pc st hd hf => zl_fin_ok hgg rfl hend hd hf) hL2 hall
end ZYSTART
end
