/-! log: both sides answer. -/
section YWG
variable {L : zLW} {K V kd fr hf to C mk mf mh mt T M : Int → Int} {nc tS tL sP lP mc : Int} {t h u cl sc sr ch ts p i : Int} {co ro br wc wr m gp gl : Int → Int}
def yw_rv (v : Int) : Prop := v = -1 ∨ (0 ≤ v ∧ v < 288)
theorem yw_rn_u {k v : Int} {g : Int → Int} (h : yw_rn g) (hv : yw_rv v) : yw_rn (zv_up g k v) := fun j j0 j1 => by
  by_cases e : j = k
  · subst e; rw [zv_up_s]; exact hv
  · rw [zv_up_n e]; exact h j j0 j1
theorem yw_go_rv {how : Int} (p1 : 0 ≤ p) (p2 : p < 288) : yw_rv (yg_go p how) := by
  have := yg_go_in (how := how) p1 p2
  unfold yw_rv
  omega
def yw_logS (a w ln n : Int) : Int := if zs_in a 1 12 = 0 then n else if zs_in w 0 1 = 0 then n else if ln = 0 then n else if n < 2 * a then n else 0
theorem yw_move (z : yk_sea ts gp gl m) {how : Int} {g : Int → Int} (hg : yw_rn g) : zh_ok (zf_X_moveSpots how g gl) yw_rn := by
  unfold zf_X_moveSpots
  refine zh_bind (Q := yw_rn) (zh_loop (F := fun f j (b : Int → Int) => zf_X_moveSpots_l0 how gl f j b) (N := 288) (I := fun _ b => yw_rn b) (fun f j b j0 j1 ha kk => ?_) 288 0 g zi_fu (by decide) (by decide) (by decide) (by decide) hg) fun q hq => zh_ret hq
  show zh_ok (zf_X_moveSpots_l0_b how gl (zf_X_moveSpots_l0 how gl f) j b) _
  unfold zf_X_moveSpots_l0_b
  refine zh_ite (fun hj => ?_) fun _ => zh_ret ha
  rw [zi_w_id (x := j + 1) (by omega) (by omega)]
  refine zh_cond (zi_ix_of j0 hj) (zh_ite (fun _ => kk _ hj ha) fun hne => ?_)
  obtain ⟨v0, v1⟩ := (ha j j0 hj).resolve_left hne
  rw [ze_goFrom z v0 v1, zl_b]
  refine kk _ hj (yw_rn_u ha ?_)
  split
  · exact Or.inl rfl
  · exact yw_go_rv v0 v1
theorem yw_lg2X (R : yl_R L K V nc tS tL sP lP kd fr hf to mc C mk mf mh mt) (k : yk_sky t h u cl sc sr ch co ro br wc wr m) {w nn e1 e2 e3 e4 e5 e6 e7 : Int} {nr d1 d2 d3 d4 d5 d6 d7 d8 d9 : Int → Int} (hc : yv_ca L sP h u co ro br e1 e5) (hp : yv_cp L lP h u co ro br d2 d6) (hs : yw_so d9) (hn : yw_rn d1) :
    zh_ok (zf_X_log_l2 w t h u cl sc sr tS nc sP nn tL lP co ro br kd hf to K V nr zi_fu 0 e1 e2 e3 e4 e5 e6 e7 d1 d2 d3 d4 d5 d6 d7 d8 d9) fun o => yw_rn o.2.2.2.2.2.2.2.1 ∧ yw_so o.2.2.2.2.2.2.2.2.2.2.2.2.2.2.2 := by
  refine zh_loop (F := fun f j (b : Int × Int × Int × Int × Int × Int × Int × (Int → Int) × (Int → Int) × (Int → Int) × (Int → Int) × (Int → Int) × (Int → Int) × (Int → Int) × (Int → Int) × (Int → Int)) => zf_X_log_l2 w t h u cl sc sr tS nc sP nn tL lP co ro br kd hf to K V nr f j b.1 b.2.1 b.2.2.1 b.2.2.2.1 b.2.2.2.2.1 b.2.2.2.2.2.1 b.2.2.2.2.2.2.1 b.2.2.2.2.2.2.2.1 b.2.2.2.2.2.2.2.2.1 b.2.2.2.2.2.2.2.2.2.1 b.2.2.2.2.2.2.2.2.2.2.1 b.2.2.2.2.2.2.2.2.2.2.2.1 b.2.2.2.2.2.2.2.2.2.2.2.2.1 b.2.2.2.2.2.2.2.2.2.2.2.2.2.1 b.2.2.2.2.2.2.2.2.2.2.2.2.2.2.1 b.2.2.2.2.2.2.2.2.2.2.2.2.2.2.2) (N := 288) (I := fun _ o => yv_ca L sP h u co ro br o.1 o.2.2.2.2.1 ∧ yv_cp L lP h u co ro br o.2.2.2.2.2.2.2.2.1 o.2.2.2.2.2.2.2.2.2.2.2.2.1 ∧ yw_rn o.2.2.2.2.2.2.2.1 ∧ yw_so o.2.2.2.2.2.2.2.2.2.2.2.2.2.2.2) (fun f j b j0 j1 ha kk => ?_) 288 0 (e1, e2, e3, e4, e5, e6, e7, d1, d2, d3, d4, d5, d6, d7, d8, d9) zi_fu (by decide) (by decide) (by decide) (by decide) ⟨hc, hp, hn, hs⟩
  obtain ⟨b1, b2, b3, b4, b5, b6, b7, b8, b9, b10, b11, b12, b13, b14, b15, b16⟩ := b
  obtain ⟨a1, a2, a3, a4⟩ := ha
  dsimp only at a1 a2 a3 a4
  show zh_ok (zf_X_log_l2_b w t h u cl sc sr tS nc sP nn tL lP co ro br kd hf to K V nr (zf_X_log_l2 w t h u cl sc sr tS nc sP nn tL lP co ro br kd hf to K V nr f) j b1 b2 b3 b4 b5 b6 b7 b8 b9 b10 b11 b12 b13 b14 b15 b16) _
  unfold zf_X_log_l2_b
  refine zh_ite (fun hj => ?_) fun _ => zh_ret ⟨a3, a4⟩
  rw [zi_w_id (x := j + 1) (by omega) (by omega)]
  have k2 : ∀ c1 c2 c3 c4 c5 c6 c7 c8 c9 c10 c11 c12 c13 c14 c15 c16, yv_ca L sP h u co ro br c1 c5 → yv_cp L lP h u co ro br c9 c13 → yw_rn c8 → yw_so c16 → zh_ok (zf_X_log_l2 w t h u cl sc sr tS nc sP nn tL lP co ro br kd hf to K V nr f (j + 1) c1 c2 c3 c4 c5 c6 c7 c8 c9 c10 c11 c12 c13 c14 c15 c16) _ := fun c1 c2 c3 c4 c5 c6 c7 c8 c9 c10 c11 c12 c13 c14 c15 c16 p1 p2 p3 p4 => kk (c1, c2, c3, c4, c5, c6, c7, c8, c9, c10, c11, c12, c13, c14, c15, c16) hj ⟨p1, p2, p3, p4⟩
  refine zh_cond (zi_ix_of j0 hj) (zh_ite (fun _ => k2 _ _ _ _ _ _ _ _ _ _ _ _ _ _ _ _ a1 a2 a3 a4) fun hne => ?_)
  obtain ⟨v0, v1⟩ := (a3 j j0 hj).resolve_left hne
  exact zh_bind (yw_cbtX R k v0 v1 a1 a2 a4) fun r h5 => zh_ite (fun _ => k2 _ _ _ _ _ _ _ _ _ _ _ _ _ _ _ _ h5.1 h5.2.1 a3 h5.2.2) fun _ => k2 _ _ _ _ _ _ _ _ _ _ _ _ _ _ _ _ h5.1 h5.2.1 (yw_rn_u a3 (Or.inl rfl)) h5.2.2
theorem yw_lg1X (R : yl_R L K V nc tS tL sP lP kd fr hf to mc C mk mf mh mt) (w : yw_wo t h u cl sc sr ch ts co ro br wc wr gl) (hT : yk_T T M) {a nn e1 e2 e3 e4 e5 e6 e7 : Int} {nr d1 c1 c2 c3 c4 c5 c6 c7 c8 : Int → Int} (n1 : 0 ≤ a) (n2 : a ≤ 12) (hs : yw_so c8) (hn : yw_rn d1) :
    zh_ok (zf_X_log_l1 a t cl sc sr tS nc sP nn tL lP T gl br wc wr kd hf to K V nr zi_fu 0 h u e1 e2 e3 e4 e5 e6 e7 d1 co ro c1 c2 c3 c4 c5 c6 c7 c8) fun o => yw_so o.2.2.2.2.2.2.2.2.2.2.2.2.2.2.2.2.2.2.2 := by
  refine zh_loop (F := fun f j (b : Int × Int × Int × Int × Int × Int × Int × Int × Int × (Int → Int) × (Int → Int) × (Int → Int) × (Int → Int) × (Int → Int) × (Int → Int) × (Int → Int) × (Int → Int) × (Int → Int) × (Int → Int) × (Int → Int)) => zf_X_log_l1 a t cl sc sr tS nc sP nn tL lP T gl br wc wr kd hf to K V nr f j b.1 b.2.1 b.2.2.1 b.2.2.2.1 b.2.2.2.2.1 b.2.2.2.2.2.1 b.2.2.2.2.2.2.1 b.2.2.2.2.2.2.2.1 b.2.2.2.2.2.2.2.2.1 b.2.2.2.2.2.2.2.2.2.1 b.2.2.2.2.2.2.2.2.2.2.1 b.2.2.2.2.2.2.2.2.2.2.2.1 b.2.2.2.2.2.2.2.2.2.2.2.2.1 b.2.2.2.2.2.2.2.2.2.2.2.2.2.1 b.2.2.2.2.2.2.2.2.2.2.2.2.2.2.1 b.2.2.2.2.2.2.2.2.2.2.2.2.2.2.2.1 b.2.2.2.2.2.2.2.2.2.2.2.2.2.2.2.2.1 b.2.2.2.2.2.2.2.2.2.2.2.2.2.2.2.2.2.1 b.2.2.2.2.2.2.2.2.2.2.2.2.2.2.2.2.2.2.1 b.2.2.2.2.2.2.2.2.2.2.2.2.2.2.2.2.2.2.2) (N := a) (I := fun _ o => yw_wo t o.1 o.2.1 cl sc sr ch ts o.2.2.2.2.2.2.2.2.2.2.1 o.2.2.2.2.2.2.2.2.2.2.2.1 br wc wr gl ∧ yw_rn o.2.2.2.2.2.2.2.2.2.1 ∧ yw_so o.2.2.2.2.2.2.2.2.2.2.2.2.2.2.2.2.2.2.2) (fun f j b j0 j1 ha kk => ?_) 12 0 (h, u, e1, e2, e3, e4, e5, e6, e7, d1, co, ro, c1, c2, c3, c4, c5, c6, c7, c8) zi_fu (by omega) (by decide) n1 (by decide) ⟨w, hn, hs⟩
  obtain ⟨b1, b2, b3, b4, b5, b6, b7, b8, b9, b10, b11, b12, b13, b14, b15, b16, b17, b18, b19, b20⟩ := b
  obtain ⟨w2, a3, a4⟩ := ha
  dsimp only at w2 a3 a4
  show zh_ok (zf_X_log_l1_b a t cl sc sr tS nc sP nn tL lP T gl br wc wr kd hf to K V nr (zf_X_log_l1 a t cl sc sr tS nc sP nn tL lP T gl br wc wr kd hf to K V nr f) j b1 b2 b3 b4 b5 b6 b7 b8 b9 b10 b11 b12 b13 b14 b15 b16 b17 b18 b19 b20) _
  unfold zf_X_log_l1_b
  refine zh_ite (fun hj => ?_) fun _ => zh_ret a4
  rw [zi_w_id (x := j + 1) (by omega) (by omega), zi_w_id (x := 2 * j) (by omega) (by omega), zi_w_id (x := 2 * j + 1) (by omega) (by omega), zi_w_id (x := a - 1) (by omega) (by omega)]
  obtain ⟨gA, e0, h0⟩ := ze_open (f := b3) (g := b13)
  obtain ⟨gp, m, k, z⟩ := w2
  obtain ⟨h', u', co', ro', m', e7, -, k3, e8⟩ := yk_pass k
  have w3 : yw_wo t h' u' cl sc sr ch ts co' ro' br wc wr gl := ⟨gp, m', k3, yk_sea_fr z fun j hj => e8 j (by omega) (by omega) (by omega)⟩
  rw [e0, zl_b, ze_byteAt (by omega) (by omega), zl_b, ze_byteAt (by omega) (by omega)]
  have fin : ∀ q : Int × Int × Int × Int × Int × Int × Int × (Int → Int) × (Int → Int) × (Int → Int) × (Int → Int) × (Int → Int) × (Int → Int) × (Int → Int) × (Int → Int) × (Int → Int), yw_rn q.2.2.2.2.2.2.2.1 ∧ yw_so q.2.2.2.2.2.2.2.2.2.2.2.2.2.2.2 → zh_ok (if j < a - 1 then ((some (T (2 * j + 1))).bind fun r39 => ((zf_X_moveSpots r39 q.2.2.2.2.2.2.2.1 gl).bind fun r40 => ((zf_Sky_passHour b1 b2 b11 wc b12 wr).bind fun r41 => (zf_X_log_l1 a t cl sc sr tS nc sP nn tL lP T gl br wc wr kd hf to K V nr f (j + 1) r41.1 r41.2.1 q.1 q.2.1 q.2.2.1 q.2.2.2.1 q.2.2.2.2.1 q.2.2.2.2.2.1 q.2.2.2.2.2.2.1 r40 r41.2.2.1 r41.2.2.2 q.2.2.2.2.2.2.2.2.1 q.2.2.2.2.2.2.2.2.2.1 q.2.2.2.2.2.2.2.2.2.2.1 q.2.2.2.2.2.2.2.2.2.2.2.1 q.2.2.2.2.2.2.2.2.2.2.2.2.1 q.2.2.2.2.2.2.2.2.2.2.2.2.2.1 q.2.2.2.2.2.2.2.2.2.2.2.2.2.2.1 q.2.2.2.2.2.2.2.2.2.2.2.2.2.2.2)))) else ((zf_Sky_passHour b1 b2 b11 wc b12 wr).bind fun r38 => (zf_X_log_l1 a t cl sc sr tS nc sP nn tL lP T gl br wc wr kd hf to K V nr f (j + 1) r38.1 r38.2.1 q.1 q.2.1 q.2.2.1 q.2.2.2.1 q.2.2.2.2.1 q.2.2.2.2.2.1 q.2.2.2.2.2.2.1 q.2.2.2.2.2.2.2.1 r38.2.2.1 r38.2.2.2 q.2.2.2.2.2.2.2.2.1 q.2.2.2.2.2.2.2.2.2.1 q.2.2.2.2.2.2.2.2.2.2.1 q.2.2.2.2.2.2.2.2.2.2.2.1 q.2.2.2.2.2.2.2.2.2.2.2.2.1 q.2.2.2.2.2.2.2.2.2.2.2.2.2.1 q.2.2.2.2.2.2.2.2.2.2.2.2.2.2.1 q.2.2.2.2.2.2.2.2.2.2.2.2.2.2.2))) fun o => yw_so o.2.2.2.2.2.2.2.2.2.2.2.2.2.2.2.2.2.2.2 := fun q hq => by
    refine zh_ite (fun _ => ?_) fun _ => ?_
    · rw [zl_b]
      refine zh_bind (yw_move z hq.1) fun r40 h40 => ?_
      rw [e7, zl_b]
      exact kk (h', u', q.1, q.2.1, q.2.2.1, q.2.2.2.1, q.2.2.2.2.1, q.2.2.2.2.2.1, q.2.2.2.2.2.2.1, r40, co', ro', q.2.2.2.2.2.2.2.2.1, q.2.2.2.2.2.2.2.2.2.1, q.2.2.2.2.2.2.2.2.2.2.1, q.2.2.2.2.2.2.2.2.2.2.2.1, q.2.2.2.2.2.2.2.2.2.2.2.2.1, q.2.2.2.2.2.2.2.2.2.2.2.2.2.1, q.2.2.2.2.2.2.2.2.2.2.2.2.2.2.1, q.2.2.2.2.2.2.2.2.2.2.2.2.2.2.2) hj ⟨w3, h40, hq.2⟩
    · rw [e7, zl_b]
      exact kk (h', u', q.1, q.2.1, q.2.2.1, q.2.2.2.1, q.2.2.2.2.1, q.2.2.2.2.2.1, q.2.2.2.2.2.2.1, q.2.2.2.2.2.2.2.1, co', ro', q.2.2.2.2.2.2.2.2.1, q.2.2.2.2.2.2.2.2.2.1, q.2.2.2.2.2.2.2.2.2.2.1, q.2.2.2.2.2.2.2.2.2.2.2.1, q.2.2.2.2.2.2.2.2.2.2.2.2.1, q.2.2.2.2.2.2.2.2.2.2.2.2.2.1, q.2.2.2.2.2.2.2.2.2.2.2.2.2.2.1, q.2.2.2.2.2.2.2.2.2.2.2.2.2.2.2) hj ⟨w3, hq.1, hq.2⟩
  exact zh_ite (fun _ => zh_bind (yw_lg2X R k yv_ca0 (yv_cp0 h0) a4 a3) fin) fun _ => zh_bind (yw_lg2X R k yv_ca0 (yv_cp0 h0) a4 a3) fin
theorem yw_lay (z : yk_sea ts gp gl m) (A B : Int → Int) : ∃ A' B', zf_X_log_l0 gl zi_fu 0 A = some A' ∧ zf_M_log_l0 m zi_fu 0 B = some B' ∧ yw_rn A' ∧ yw_rn B' := by
  obtain ⟨A', B', e1, e2, h, -⟩ := yp_lay_l z 288 0 A B zi_fu (by decide) (by decide) (by decide)
  have v : ∀ i, 0 ≤ i → i < 288 → yw_rv (if yg_ld gl i = true then -1 else i) := fun i i0 i1 => by
    unfold yw_rv
    split <;> omega
  exact ⟨A', B', e1, e2, fun i i0 i1 => by rw [(h i i0 i1).1]; exact v i i0 i1, fun i i0 i1 => by rw [(h i i0 i1).2]; exact v i i0 i1⟩
theorem yw_logX (R : yl_R L K V nc tS tL sP lP kd fr hf to mc C mk mf mh mt) (k : yk_sky t h u cl sc sr ch co ro br wc wr m) (z : yk_sea ts gp gl m) (hT : yk_T T M) {a w ln n nn : Int} {f4 f6 f8 f10 f12 f14 f16 f20 f21 f22 f23 f25 f27 f34 : Int} {nr g1 g4 g6 g8 g10 g12 g13 g14 g19 g21 g22 g23 g25 g26 : Int → Int} (hs : yw_so g26) :
    zh_ok (zf_X_log a w ln n t f4 h f6 u f8 cl f10 sc f12 sr f14 ch f16 f20 f21 f22 f23 tS f25 nc f27 sP nn tL lP f34 T g1 gl co g4 ro g6 br g8 wc g10 wr g12 g13 g14 kd hf to K g19 V g21 g22 g23 nr g25 g26) fun o => o.2.1 = yw_logS a w ln n ∧ yw_so o.2.2.2.2.2.2.2.2.2.2.2.2.2.2.2.2.2.2.2.2.2.2.2.2.2.2.2.2.2 := by
  unfold zf_X_log yw_logS
  rw [ze_X_isWithin, zl_b]
  refine zh_ite (fun q => zh_ret ⟨(if_pos q).symm, hs⟩) fun q1 => ?_
  rw [if_neg q1, ze_X_isWithin, zl_b]
  refine zh_ite (fun q => zh_ret ⟨(if_pos q).symm, hs⟩) fun q2 => ?_
  rw [if_neg q2]
  refine zh_ite (fun q => zh_ret ⟨(if_pos q).symm, hs⟩) fun q3 => ?_
  rw [if_neg q3]
  obtain ⟨n1, n2⟩ := zs_in_ne q1
  rw [zi_w_id (x := 2 * a) (by omega) (by omega)]
  unfold zf_Tape_take
  by_cases q4 : n < 2 * a
  · rw [if_pos q4, if_pos q4, zl_b, if_pos rfl]
    exact zh_ret ⟨rfl, hs⟩
  rw [if_neg q4, if_neg q4, zl_b, if_neg (show ¬ (1 : Int) = 0 by decide)]
  have hb : zh_ok (zf_X_isLogBytes a T) fun _ => True := by
    rcases yl_bytes (n := a) hT (by omega) n2 (A := T) (B := T) with ⟨A', B', e, -⟩ | ⟨A', B', e, -⟩
    · exact zh_t e
    · exact zh_t e
  refine zh_bind hb fun r12 _ => zh_ite (fun _ => zh_ret ⟨rfl, hs⟩) fun _ => ?_
  obtain ⟨A', -, e1, -, hA, -⟩ := yw_lay z g1 g1
  rw [e1, zl_b]
  unfold zf_Sky_copyFrom
  rw [zl_b]
  dsimp only
  have w2 : yw_wo t h u cl sc sr ch ts (zv_cpy co g4 24) (zv_cpy ro g6 24) (zv_cpy br g8 24) (zv_cpy wc g10 24) (zv_cpy wr g12 24) gl := ⟨gp, m, yk_sky_cg k (fun j j1 j2 => zv_cpy_in j2) (fun j j1 j2 => zv_cpy_in j2) (fun j j1 j2 => zv_cpy_in j2) (fun j j1 j2 => zv_cpy_in j2) (fun j j1 j2 => zv_cpy_in j2) (fun _ _ _ => rfl), z⟩
  refine zh_bind (yw_lg1X R w2 hT (by omega) n2 hs hA) fun q42 h42 => ?_
  have cf : ∀ B : Int → Int, ∃ c f, zf_X_countSpots B = some c ∧ zf_X_firstSpot B = some f := fun B => by
    obtain ⟨c, f, e2, e3, -⟩ := yp_count (A := B) (B := B) fun _ _ _ => rfl
    exact ⟨c, f, e2, e3⟩
  obtain ⟨c, f, e2, e3⟩ := cf q42.2.2.2.2.2.2.2.2.2.1
  rw [e2, e3, zl_b, zl_b]
  exact zh_ite (fun _ => zh_ret ⟨rfl, h42⟩) fun _ => zh_ret ⟨rfl, h42⟩
end YWG
