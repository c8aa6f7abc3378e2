/-! byTwo: the class answers; the legs' places stay in the sea. -/
section YWF2
variable {L : zLW} {K V kd fr hf to C mk mf mh mt : Int → Int} {nc tS tL sP lP mc : Int} {t h u cl sc sr ch ts p i : Int} {co ro br wc wr m gp gl : Int → Int}
theorem yw_lower {x2 : Int} {G : Int → Int} (h1 : 0 ≤ t) (h2 : t ≤ 2147483647) (i0 : 0 ≤ x2) (i1 : x2 < 24) :
    zh_ok (zf_Pilot_isBroughtByLower x2 t G) fun _ => True := by
  unfold zf_Pilot_isBroughtByLower
  refine zh_sum (Q := fun _ => True) (zh_loop (F := fun f j (_ : Unit) => zf_Pilot_isBroughtByLower_l0 x2 t G f j) (N := 24) (I := fun _ _ => True) (fun f j b j0 j1 _ kk => ?_) 24 0 () zi_fu (by decide) (by decide) (by decide) (by decide) trivial) (fun _ _ => zh_ret trivial) fun _ _ => zh_ret trivial
  show zh_ok (zf_Pilot_isBroughtByLower_l0_b x2 t G (zf_Pilot_isBroughtByLower_l0 x2 t G f) j) _
  unfold zf_Pilot_isBroughtByLower_l0_b
  refine zh_ite (fun hj => ?_) fun _ => zh_ret trivial
  rw [ze_Sky_hasStar h1 h2, zl_b, zi_w_id (x := j + 1) (by omega) (by omega)]
  exact zh_ite (fun _ => kk () (by omega) trivial) fun _ => zh_cond (zi_ix_of j0 (by omega)) (zh_cond (zi_ix_of i0 i1) (zh_ite (fun _ => zh_ret trivial) fun _ => kk () (by omega) trivial))
theorem yw_endF {x2 f1 : Int} {G g1 g2 g3 : Int → Int} (h1 : 0 ≤ t) (h2 : t ≤ 2147483647) (hG : yw_rg 24 G) (l0 : 0 ≤ f1) (l1 : f1 ≤ 264) (h3 : yw_rg 264 g3) :
    zh_ok (zf_Pilot_endFirstLegs x2 t f1 G g1 g2 g3) fun o => 0 ≤ o.1 ∧ o.1 ≤ 264 ∧ yw_rg 264 o.2.2.2 := by
  unfold zf_Pilot_endFirstLegs
  refine zh_bind (Q := fun o => 0 ≤ o.1 ∧ o.1 ≤ 264 ∧ yw_rg 264 o.2.2.2) (zh_loop (F := fun f j (b : Int × (Int → Int) × (Int → Int) × (Int → Int)) => zf_Pilot_endFirstLegs_l0 x2 t G f j b.1 b.2.1 b.2.2.1 b.2.2.2) (N := 24) (I := fun _ o => 0 ≤ o.1 ∧ o.1 ≤ 264 ∧ yw_rg 264 o.2.2.2) (fun f j b j0 j1 ha kk => ?_) 24 0 (f1, g1, g2, g3) zi_fu (by decide) (by decide) (by decide) (by decide) ⟨l0, l1, h3⟩) fun q hq => zh_ret hq
  obtain ⟨b1, b2, b3, b4⟩ := b
  obtain ⟨a0, a1, a2⟩ := ha
  dsimp only at a0 a1 a2
  show zh_ok (zf_Pilot_endFirstLegs_l0_b x2 t G (zf_Pilot_endFirstLegs_l0 x2 t G f) j b1 b2 b3 b4) _
  unfold zf_Pilot_endFirstLegs_l0_b
  refine zh_ite (fun hj => ?_) fun _ => zh_ret ⟨a0, a1, a2⟩
  rw [ze_Sky_hasStar h1 h2, zl_b, zi_w_id (x := j + 1) (by omega) (by omega), zi_w_id (x := b1 + 1) (by omega) (by omega)]
  have k2 : ∀ c1 c2 c3 c4, 0 ≤ c1 → c1 ≤ 264 → yw_rg 264 c4 → zh_ok (zf_Pilot_endFirstLegs_l0 x2 t G f (j + 1) c1 c2 c3 c4) _ := fun c1 c2 c3 c4 p1 p2 p3 => kk (c1, c2, c3, c4) hj ⟨p1, p2, p3⟩
  have hp := hG j j0 hj
  exact zh_ite (fun _ => k2 _ _ _ _ a0 a1 a2) fun _ => zh_bind (yw_lower h1 h2 j0 hj) fun r4 _ => zh_ite (fun _ => zh_ite (fun hl => zh_cond (zi_ix_of a0 hl) (zh_cond (zi_ix_of j0 hj) (k2 _ _ _ _ (by omega) (by omega) (yw_rg_up a2 hp.1 hp.2)))) fun _ => k2 _ _ _ _ a0 a1 a2) fun _ => k2 _ _ _ _ a0 a1 a2
theorem yw_fs1 (R : yl_R L K V nc tS tL sP lP kd fr hf to mc C mk mf mh mt) (w : yw_wo t h u cl sc sr ch ts co ro br wc wr gl) {x3 x4 x6 lg best x y as ho a : Int} {lh lf le turns ln g S : Int → Int} (i0 : 0 ≤ x3) (i1 : x3 < 24) (hti : zb t x3.toNat = true) (hl : lg ≤ 264) (hle : yw_rg 264 le) (hc : yv_ca L sP h u co ro br as ho) (ht : yw_rn turns) (hn : yw_rg 264 ln) :
    zh_ok (zf_Pilot_followSecond_l1 x3 x4 x6 lg h u t sc sr cl tS nc sP lh lf co ro br kd hf to K V gl le zi_fu 0 best x y as ho a turns ln g S) fun o => yv_ca L sP h u co ro br o.2.2.2.1 o.2.2.2.2.1 ∧ yw_rg 264 o.2.2.2.2.2.2.2.1 := by
  by_cases hlg : lg < 0
  · show zh_ok (zf_Pilot_followSecond_l1_b x3 x4 x6 lg h u t sc sr cl tS nc sP lh lf co ro br kd hf to K V gl le _ 0 best x y as ho a turns ln g S) _
    unfold zf_Pilot_followSecond_l1_b
    rw [if_neg (by omega)]
    exact zh_ret ⟨hc, hn⟩
  refine zh_loop (F := fun f j (b : Int × Int × Int × Int × Int × Int × (Int → Int) × (Int → Int) × (Int → Int) × (Int → Int)) => zf_Pilot_followSecond_l1 x3 x4 x6 lg h u t sc sr cl tS nc sP lh lf co ro br kd hf to K V gl le f j b.1 b.2.1 b.2.2.1 b.2.2.2.1 b.2.2.2.2.1 b.2.2.2.2.2.1 b.2.2.2.2.2.2.1 b.2.2.2.2.2.2.2.1 b.2.2.2.2.2.2.2.2.1 b.2.2.2.2.2.2.2.2.2) (N := lg) (I := fun _ o => yv_ca L sP h u co ro br o.2.2.2.1 o.2.2.2.2.1 ∧ yw_rn o.2.2.2.2.2.2.1 ∧ yw_rg 264 o.2.2.2.2.2.2.2.1) (fun f j b j0 j1 ha kk => ?_) 264 0 (best, x, y, as, ho, a, turns, ln, g, S) zi_fu (by omega) (by decide) (by omega) (by decide) ⟨hc, ht, hn⟩
  obtain ⟨b1, b2, b3, b4, b5, b6, b7, b8, b9, b10⟩ := b
  obtain ⟨a1, a2, a3⟩ := ha
  dsimp only at a1 a2 a3
  show zh_ok (zf_Pilot_followSecond_l1_b x3 x4 x6 lg h u t sc sr cl tS nc sP lh lf co ro br kd hf to K V gl le (zf_Pilot_followSecond_l1 x3 x4 x6 lg h u t sc sr cl tS nc sP lh lf co ro br kd hf to K V gl le f) j b1 b2 b3 b4 b5 b6 b7 b8 b9 b10) _
  unfold zf_Pilot_followSecond_l1_b
  refine zh_ite (fun hj => ?_) fun _ => zh_ret ⟨a1, a3⟩
  rw [zi_w_id (x := j + 1) (by omega) (by omega)]
  have k2 : ∀ c1 c2 c3 c4 c5 c6 c7 c8 c9 c10, yv_ca L sP h u co ro br c4 c5 → yw_rn c7 → yw_rg 264 c8 → zh_ok (zf_Pilot_followSecond_l1 x3 x4 x6 lg h u t sc sr cl tS nc sP lh lf co ro br kd hf to K V gl le f (j + 1) c1 c2 c3 c4 c5 c6 c7 c8 c9 c10) _ := fun c1 c2 c3 c4 c5 c6 c7 c8 c9 c10 p1 p2 p3 => kk (c1, c2, c3, c4, c5, c6, c7, c8, c9, c10) hj ⟨p1, p2, p3⟩
  have br3 : ∀ (v bb q : Int) c1 c2 c3 c4 c5 c6 c7 c8 c9 c10, yv_ca L sP h u co ro br c4 c5 → yw_rn c7 → yw_rg 264 c8 → zh_ok (if v = x4 then (if b1 = -1 then zf_Pilot_followSecond_l1 x3 x4 x6 lg h u t sc sr cl tS nc sP lh lf co ro br kd hf to K V gl le f (j + 1) bb c2 c3 c4 c5 c6 c7 c8 c9 c10 else (zf_Math_min q bb).bind fun r => zf_Pilot_followSecond_l1 x3 x4 x6 lg h u t sc sr cl tS nc sP lh lf co ro br kd hf to K V gl le f (j + 1) r c2 c3 c4 c5 c6 c7 c8 c9 c10) else zf_Pilot_followSecond_l1 x3 x4 x6 lg h u t sc sr cl tS nc sP lh lf co ro br kd hf to K V gl le f (j + 1) c1 c2 c3 c4 c5 c6 c7 c8 c9 c10) _ := fun v bb q c1 c2 c3 c4 c5 c6 c7 c8 c9 c10 p1 p2 p3 => zh_ite (fun _ => zh_ite (fun _ => k2 _ _ _ _ _ _ _ _ _ _ p1 p2 p3) fun _ => zh_bind (zh_t ze_Math_min) fun r _ => k2 _ _ _ _ _ _ _ _ _ _ p1 p2 p3) fun _ => k2 _ _ _ _ _ _ _ _ _ _ p1 p2 p3
  have stp : ∀ q, 0 ≤ q → q < 288 → zh_ok (zf_Pilot_step q x3 b2 b3 h u t sc sr cl tS b4 b5 nc b6 sP b9 co ro br kd hf to K b10 V gl) _ := fun q q1 q2 => yw_stepX R w q1 q2 i0 i1 hti a1
  have e1 := hle j j0 (by omega)
  have e2 := a3 j j0 (by omega)
  refine zh_cond (zi_ix_of j0 (by omega)) (zh_ite (fun _ => zh_ite (fun _ => zh_cond (zi_ix_of e1.1 e1.2) (zh_ite (fun _ => zh_bind (stp _ e1.1 e1.2) fun r h5 => ?_) fun hne => ?_)) fun _ => zh_cond (zi_ix_of e2.1 e2.2) (zh_ite (fun _ => zh_bind (stp _ e2.1 e2.2) fun r h5 => ?_) fun hne => ?_)) fun _ => zh_ret ⟨a1, a3⟩)
  · exact br3 _ _ _ _ _ _ _ _ _ _ _ _ _ h5.2.2 (yw_rn_up a2 h5.1 h5.2.1) (yw_rg_up a3 (by rw [zv_up_s]; exact h5.1) (by rw [zv_up_s]; exact h5.2.1))
  · have hv := (a2 _ e1.1 e1.2).resolve_left hne
    exact br3 _ _ _ _ _ _ _ _ _ _ _ _ _ a1 a2 (yw_rg_up a3 hv.1 hv.2)
  · exact br3 _ _ _ _ _ _ _ _ _ _ _ _ _ h5.2.2 (yw_rn_up a2 h5.1 h5.2.1) (yw_rg_up a3 (by rw [zv_up_s]; exact h5.1) (by rw [zv_up_s]; exact h5.2.1))
  · have hv := (a2 _ e2.1 e2.2).resolve_left hne
    exact br3 _ _ _ _ _ _ _ _ _ _ _ _ _ a1 a2 (yw_rg_up a3 hv.1 hv.2)
theorem yw_fs (R : yl_R L K V nc tS tL sP lP kd fr hf to mc C mk mf mh mt) (w : yw_wo t h u cl sc sr ch ts co ro br wc wr gl) {x3 x4 x5 lg best x y as ho a : Int} {lh lf le turns ln g S A : Int → Int} (i0 : 0 ≤ x3) (i1 : x3 < 24) (hti : zb t x3.toNat = true) (n0 : 0 ≤ x5) (n1 : x5 ≤ 12) (hl : lg ≤ 264) (hle : yw_rg 264 le) (hc : yv_ca L sP h u co ro br as ho) (hn : yw_rg 264 ln) :
    zh_ok (zf_Pilot_followSecond x3 x4 x5 best lg x y h u t sc sr cl tS as ho nc a sP turns lh ln lf g co ro br kd hf to K S V gl le wc wr A) fun o => yw_rg 264 o.2.2.2.2.2.2.2.2.2.1 := by
  unfold zf_Pilot_followSecond
  refine zh_bind (Q := fun o => yw_rg 264 o.2.2.2.2.2.2.2.2.2.1) (zh_loop (F := fun f j (b : Int × Int × Int × Int × Int × Int × Int × Int × (Int → Int) × (Int → Int) × (Int → Int) × (Int → Int) × (Int → Int) × (Int → Int) × (Int → Int)) => zf_Pilot_followSecond_l0 x3 x4 x5 lg t sc sr cl tS nc sP lh lf br kd hf to K V gl le wc wr f j b.1 b.2.1 b.2.2.1 b.2.2.2.1 b.2.2.2.2.1 b.2.2.2.2.2.1 b.2.2.2.2.2.2.1 b.2.2.2.2.2.2.2.1 b.2.2.2.2.2.2.2.2.1 b.2.2.2.2.2.2.2.2.2.1 b.2.2.2.2.2.2.2.2.2.2.1 b.2.2.2.2.2.2.2.2.2.2.2.1 b.2.2.2.2.2.2.2.2.2.2.2.2.1 b.2.2.2.2.2.2.2.2.2.2.2.2.2.1 b.2.2.2.2.2.2.2.2.2.2.2.2.2.2) (N := x5 + 1) (I := fun _ o => yw_wo t o.2.2.2.1 o.2.2.2.2.1 cl sc sr ch ts o.2.2.2.2.2.2.2.2.2.2.2.1 o.2.2.2.2.2.2.2.2.2.2.2.2.1 br wc wr gl ∧ yv_ca L sP o.2.2.2.1 o.2.2.2.2.1 o.2.2.2.2.2.2.2.2.2.2.2.1 o.2.2.2.2.2.2.2.2.2.2.2.2.1 br o.2.2.2.2.2.1 o.2.2.2.2.2.2.1 ∧ yw_rg 264 o.2.2.2.2.2.2.2.2.2.1) (fun f j b j0 j1 ha kk => ?_) 12 1 (best, x, y, h, u, as, ho, a, turns, ln, g, co, ro, S, A) zi_fu (by omega) (by decide) (by omega) (by decide) ⟨w, hc, hn⟩) fun q hq => zh_ret hq
  obtain ⟨b1, b2, b3, b4, b5, b6, b7, b8, b9, b10, b11, b12, b13, b14, b15⟩ := b
  obtain ⟨w2, c2, n2⟩ := ha
  dsimp only at w2 c2 n2
  show zh_ok (zf_Pilot_followSecond_l0_b x3 x4 x5 lg t sc sr cl tS nc sP lh lf br kd hf to K V gl le wc wr (zf_Pilot_followSecond_l0 x3 x4 x5 lg t sc sr cl tS nc sP lh lf br kd hf to K V gl le wc wr f) j b1 b2 b3 b4 b5 b6 b7 b8 b9 b10 b11 b12 b13 b14 b15) _
  unfold zf_Pilot_followSecond_l0_b
  refine zh_ite (fun _ => zh_ret n2) fun hj => ?_
  rw [zi_w_id (x := j + 1) (by omega) (by omega)]
  have body : zh_ok ((zf_Arrays_fill_288 (-1) b9).bind fun r3 => ((zf_Pilot_followSecond_l1 x3 x4 j lg b4 b5 t sc sr cl tS nc sP lh lf b12 b13 br kd hf to K V gl le zi_fu 0 b1 b2 b3 b6 b7 b8 r3 b10 b11 b14).bind fun q26 => ((zf_Pilot_turnOnward b4 b5 q26.2.2.2.1 b12 wc b13 wr b15).bind fun r27 => (zf_Pilot_followSecond_l0 x3 x4 x5 lg t sc sr cl tS nc sP lh lf br kd hf to K V gl le wc wr f (j + 1) q26.1 q26.2.1 q26.2.2.1 r27.1 r27.2.1 r27.2.2.1 q26.2.2.2.2.1 q26.2.2.2.2.2.1 q26.2.2.2.2.2.2.1 q26.2.2.2.2.2.2.2.1 q26.2.2.2.2.2.2.2.2.1 r27.2.2.2.1 r27.2.2.2.2.1 q26.2.2.2.2.2.2.2.2.2 r27.2.2.2.2.2)))) fun o => yw_rg 264 o.2.2.2.2.2.2.2.2.2.1 := by
    obtain ⟨gF, e3, hF⟩ := ze_fill288 (v := -1) (g := b9)
    rw [e3, zl_b]
    refine zh_bind (yw_fs1 R w2 i0 i1 hti hl hle c2 (fun j j0 j1 => Or.inl (hF j j0 j1)) n2) fun q26 h26 => ?_
    obtain ⟨h', u', co', ro', g', e7, w3⟩ := yw_turnX (as := q26.2.2.2.1) (g := b15) w2
    rw [e7, zl_b]
    exact kk (q26.1, q26.2.1, q26.2.2.1, h', u', 0, q26.2.2.2.2.1, q26.2.2.2.2.2.1, q26.2.2.2.2.2.2.1, q26.2.2.2.2.2.2.2.1, q26.2.2.2.2.2.2.2.2.1, co', ro', q26.2.2.2.2.2.2.2.2.2, g') (by omega) ⟨w3, yv_ca0, h26.2⟩
  exact zh_ite (fun _ => body) fun _ => zh_ite (fun _ => zh_ret n2) fun _ => body
theorem yw_find2a (R : yl_R L K V nc tS tL sP lP kd fr hf to mc C mk mf mh mt) (w : yw_wo t h u cl sc sr ch ts co ro br wc wr gl) {x6 x y as ho a t0 : Int} {G g S lf lh le A : Int → Int} (h1 : 0 ≤ t0) (h2 : t0 ≤ 2147483647) (n1 : x6 ≤ 12) (n0 : 1 ≤ x6) (hc : yv_ca L sP h u co ro br as ho) (hG : yw_rg 24 G) (hle : yw_rg 264 le) :
    zh_ok (zf_Pilot_findByTwo_l0 x6 t sc sr cl tS nc sP t0 br kd hf to K V gl wc wr zi_fu 1 0 x y h u as ho a G g co ro S lf lh le A) fun o => 0 ≤ o.1 ∧ o.1 ≤ 264 ∧ yw_rg 264 o.2.2.2.2.2.2.2.2.2.2.2.2.2.2.2.1 := by
  refine zh_loop (F := fun f j (b : Int × Int × Int × Int × Int × Int × Int × Int × (Int → Int) × (Int → Int) × (Int → Int) × (Int → Int) × (Int → Int) × (Int → Int) × (Int → Int) × (Int → Int) × (Int → Int)) => zf_Pilot_findByTwo_l0 x6 t sc sr cl tS nc sP t0 br kd hf to K V gl wc wr f j b.1 b.2.1 b.2.2.1 b.2.2.2.1 b.2.2.2.2.1 b.2.2.2.2.2.1 b.2.2.2.2.2.2.1 b.2.2.2.2.2.2.2.1 b.2.2.2.2.2.2.2.2.1 b.2.2.2.2.2.2.2.2.2.1 b.2.2.2.2.2.2.2.2.2.2.1 b.2.2.2.2.2.2.2.2.2.2.2.1 b.2.2.2.2.2.2.2.2.2.2.2.2.1 b.2.2.2.2.2.2.2.2.2.2.2.2.2.1 b.2.2.2.2.2.2.2.2.2.2.2.2.2.2.1 b.2.2.2.2.2.2.2.2.2.2.2.2.2.2.2.1 b.2.2.2.2.2.2.2.2.2.2.2.2.2.2.2.2) (N := x6) (I := fun _ o => yw_wo t o.2.2.2.1 o.2.2.2.2.1 cl sc sr ch ts o.2.2.2.2.2.2.2.2.2.2.1 o.2.2.2.2.2.2.2.2.2.2.2.1 br wc wr gl ∧ yv_ca L sP o.2.2.2.1 o.2.2.2.2.1 o.2.2.2.2.2.2.2.2.2.2.1 o.2.2.2.2.2.2.2.2.2.2.2.1 br o.2.2.2.2.2.1 o.2.2.2.2.2.2.1 ∧ yw_rg 24 o.2.2.2.2.2.2.2.2.1 ∧ 0 ≤ o.1 ∧ o.1 ≤ 264 ∧ yw_rg 264 o.2.2.2.2.2.2.2.2.2.2.2.2.2.2.2.1) (fun f j b j0 j1 ha kk => ?_) 12 1 (0, x, y, h, u, as, ho, a, G, g, co, ro, S, lf, lh, le, A) zi_fu (by omega) (by decide) (by omega) (by decide) ⟨w, hc, hG, Int.le_refl 0, (by decide : (0 : Int) ≤ 264), hle⟩
  obtain ⟨b1, b2, b3, b4, b5, b6, b7, b8, b9, b10, b11, b12, b13, b14, b15, b16, b17⟩ := b
  obtain ⟨w2, c2, G2, l0, l1, le2⟩ := ha
  dsimp only at w2 c2 G2 l0 l1 le2
  show zh_ok (zf_Pilot_findByTwo_l0_b x6 t sc sr cl tS nc sP t0 br kd hf to K V gl wc wr (zf_Pilot_findByTwo_l0 x6 t sc sr cl tS nc sP t0 br kd hf to K V gl wc wr f) j b1 b2 b3 b4 b5 b6 b7 b8 b9 b10 b11 b12 b13 b14 b15 b16 b17) _
  unfold zf_Pilot_findByTwo_l0_b
  refine zh_ite (fun hj => ?_) fun _ => zh_ret ⟨l0, l1, le2⟩
  rw [zi_w_id (x := j + 1) (by omega) (by omega)]
  refine zh_bind (yw_sfl R w2 c2 G2) fun r3 h3 => zh_bind (yw_endF h1 h2 h3.2 l0 l1 le2) fun r4 h4 => ?_
  obtain ⟨h', u', co', ro', g', e7, w3⟩ := yw_turnX (as := r3.2.2.1) (g := b17) w2
  show zh_ok ((zf_Pilot_turnOnward b4 b5 r3.2.2.1 b11 wc b12 wr b17).bind _) _
  rw [e7, zl_b]
  exact kk (r4.1, r3.1, r3.2.1, h', u', 0, r3.2.2.2.1, r3.2.2.2.2.1, r3.2.2.2.2.2.1, r3.2.2.2.2.2.2.1, co', ro', r3.2.2.2.2.2.2.2, r4.2.1, r4.2.2.1, r4.2.2.2, g') hj ⟨w3, yv_ca0, h3.2, h4.1, h4.2.1, h4.2.2⟩
theorem yw_find2b (R : yl_R L K V nc tS tL sP lP kd fr hf to mc C mk mf mh mt) (w : yw_wo t h u cl sc sr ch ts co ro br wc wr gl) {x5 x6 lg e1 e2 e3 e4 e5 e6 e7 e8 e9 e10 e11 e12 e13 : Int} {lf lh le d1 d2 d3 d4 d5 d6 d7 d8 d9 d10 : Int → Int} (n0 : 0 ≤ x6) (n1 : x6 ≤ 12) (hl : lg ≤ 264) (hle : yw_rg 264 le) (hn : yw_rg 264 d10) :
    zh_ok (zf_Pilot_findByTwo_l1 x5 x6 lg tS nc sP t h u cl sc sr ch kd hf to K V gl lf lh le co ro br wc wr zi_fu 0 e1 e2 e3 e4 e5 e6 e7 e8 e9 e10 e11 e12 e13 d1 d2 d3 d4 d5 d6 d7 d8 d9 d10) fun o => yw_rg 264 o.2.2.2.2.2.2.2.2.2.2.2.2.2.2.2.2.2.2.2.2.2.2 := by
  have tin : 0 ≤ t ∧ t ≤ 2147483647 := by obtain ⟨gp, m, ⟨⟨ht, -⟩, -⟩, -⟩ := w; exact ⟨ht.1, by have := ht.2; omega⟩
  refine zh_loop (F := fun f j (b : Int × Int × Int × Int × Int × Int × Int × Int × Int × Int × Int × Int × Int × (Int → Int) × (Int → Int) × (Int → Int) × (Int → Int) × (Int → Int) × (Int → Int) × (Int → Int) × (Int → Int) × (Int → Int) × (Int → Int)) => zf_Pilot_findByTwo_l1 x5 x6 lg tS nc sP t h u cl sc sr ch kd hf to K V gl lf lh le co ro br wc wr f j b.1 b.2.1 b.2.2.1 b.2.2.2.1 b.2.2.2.2.1 b.2.2.2.2.2.1 b.2.2.2.2.2.2.1 b.2.2.2.2.2.2.2.1 b.2.2.2.2.2.2.2.2.1 b.2.2.2.2.2.2.2.2.2.1 b.2.2.2.2.2.2.2.2.2.2.1 b.2.2.2.2.2.2.2.2.2.2.2.1 b.2.2.2.2.2.2.2.2.2.2.2.2.1 b.2.2.2.2.2.2.2.2.2.2.2.2.2.1 b.2.2.2.2.2.2.2.2.2.2.2.2.2.2.1 b.2.2.2.2.2.2.2.2.2.2.2.2.2.2.2.1 b.2.2.2.2.2.2.2.2.2.2.2.2.2.2.2.2.1 b.2.2.2.2.2.2.2.2.2.2.2.2.2.2.2.2.2.1 b.2.2.2.2.2.2.2.2.2.2.2.2.2.2.2.2.2.2.1 b.2.2.2.2.2.2.2.2.2.2.2.2.2.2.2.2.2.2.2.1 b.2.2.2.2.2.2.2.2.2.2.2.2.2.2.2.2.2.2.2.2.1 b.2.2.2.2.2.2.2.2.2.2.2.2.2.2.2.2.2.2.2.2.2.1 b.2.2.2.2.2.2.2.2.2.2.2.2.2.2.2.2.2.2.2.2.2.2) (N := 24) (I := fun _ o => yw_rg 264 o.2.2.2.2.2.2.2.2.2.2.2.2.2.2.2.2.2.2.2.2.2.2) (fun f j b j0 j1 ha kk => ?_) 24 0 (e1, e2, e3, e4, e5, e6, e7, e8, e9, e10, e11, e12, e13, d1, d2, d3, d4, d5, d6, d7, d8, d9, d10) zi_fu (by decide) (by decide) (by decide) (by decide) hn
  obtain ⟨b1, b2, b3, b4, b5, b6, b7, b8, b9, b10, b11, b12, b13, b14, b15, b16, b17, b18, b19, b20, b21, b22, b23⟩ := b
  show zh_ok (zf_Pilot_findByTwo_l1_b x5 x6 lg tS nc sP t h u cl sc sr ch kd hf to K V gl lf lh le co ro br wc wr (zf_Pilot_findByTwo_l1 x5 x6 lg tS nc sP t h u cl sc sr ch kd hf to K V gl lf lh le co ro br wc wr f) j b1 b2 b3 b4 b5 b6 b7 b8 b9 b10 b11 b12 b13 b14 b15 b16 b17 b18 b19 b20 b21 b22 b23) _
  unfold zf_Pilot_findByTwo_l1_b
  refine zh_ite (fun hj => ?_) fun _ => zh_ret ha
  rw [ze_Sky_hasStar tin.1 tin.2, zl_b, zi_w_id (x := j + 1) (by omega) (by omega)]
  have k2 : ∀ c1 c2 c3 c4 c5 c6 c7 c8 c9 c10 c11 c12 c13 c14 c15 c16 c17 c18 c19 c20 c21 c22 c23, yw_rg 264 c23 → zh_ok (zf_Pilot_findByTwo_l1 x5 x6 lg tS nc sP t h u cl sc sr ch kd hf to K V gl lf lh le co ro br wc wr f (j + 1) c1 c2 c3 c4 c5 c6 c7 c8 c9 c10 c11 c12 c13 c14 c15 c16 c17 c18 c19 c20 c21 c22 c23) _ := fun c1 c2 c3 c4 c5 c6 c7 c8 c9 c10 c11 c12 c13 c14 c15 c16 c17 c18 c19 c20 c21 c22 c23 p1 => kk (c1, c2, c3, c4, c5, c6, c7, c8, c9, c10, c11, c12, c13, c14, c15, c16, c17, c18, c19, c20, c21, c22, c23) hj p1
  refine zh_ite (fun _ => k2 _ _ _ _ _ _ _ _ _ _ _ _ _ _ _ _ _ _ _ _ _ _ _ ha) fun q => ?_
  unfold zf_Sky_copyFrom
  rw [zl_b]
  dsimp only
  obtain ⟨gA, e0, h0⟩ := ze_open (f := b9) (g := b21)
  rw [e0, zl_b]
  obtain ⟨gp, m, k, z⟩ := w
  have w2 : yw_wo t h u cl sc sr ch ts (zv_cpy co b15 24) (zv_cpy ro b16 24) (zv_cpy br b17 24) (zv_cpy wc b19 24) (zv_cpy wr b20 24) gl := ⟨gp, m, yk_sky_cg k (fun j j1 j2 => zv_cpy_in j2) (fun j j1 j2 => zv_cpy_in j2) (fun j j1 j2 => zv_cpy_in j2) (fun j j1 j2 => zv_cpy_in j2) (fun j j1 j2 => zv_cpy_in j2) (fun _ _ _ => rfl), z⟩
  exact zh_bind (yw_fs R w2 j0 hj (yw_hs tin.1 tin.2 q) n0 n1 hl hle yv_ca0 ha) fun r12 h12 => k2 _ _ _ _ _ _ _ _ _ _ _ _ _ _ _ _ _ _ _ _ _ _ _ h12
theorem yw_find2 (R : yl_R L K V nc tS tL sP lP kd fr hf to mc C mk mf mh mt) (w : yw_wo t h u cl sc sr ch ts co ro br wc wr gl) {co2 ro2 br2 wc2 wr2 : Int → Int} (w2 : yw_wo t h u cl sc sr ch ts co2 ro2 br2 wc2 wr2 gl) {x4 x5 x6 f0 x y as ho a best ch2 f26 f27 f28 f29 : Int} {G g S lf lh le A turns ln : Int → Int} (q3 : 0 ≤ x4) (q4 : x4 < 288) (n0 : 1 ≤ x6) (n1 : x6 ≤ 12) (hc : yv_ca L sP h u co2 ro2 br2 as ho) (hle : yw_rg 264 le) (hn : yw_rg 264 ln) :
    zh_ok (zf_Pilot_findByTwo x4 x5 x6 f0 t x y h u sc sr cl tS as ho nc a sP t best h u cl sc sr ch ch2 f26 f27 f28 f29 G g co2 ro2 br2 kd hf to K S V gl lf lh le wc2 wr2 A co ro br wc wr turns ln) fun o => yw_rg 264 o.2.2.2.2.2.2.2.2.2.2.2.2.2.2.2.2.2.2.2.2.2.2.2.2.2.2.2.1 ∧ yw_rg 264 o.2.2.2.2.2.2.2.2.2.2.2.2.2.2.2.2.2.2.2.2.2.2.2.2.2.2.2.2.2.2.2.2 := by
  have tin : 0 ≤ t ∧ t ≤ 2147483647 := by obtain ⟨gp, m, ⟨⟨ht, -⟩, -⟩, -⟩ := w; exact ⟨ht.1, by have := ht.2; omega⟩
  unfold zf_Pilot_findByTwo
  obtain ⟨G2, e1, hG⟩ := ze_fill24 (v := x4) (g := G)
  rw [e1, zl_b]
  exact zh_bind (yw_find2a R w2 tin.1 tin.2 n1 n0 hc (fun j j0 j1 => by rw [hG j j0 j1]; exact ⟨q3, q4⟩) hle) fun q6 h6 => zh_bind (yw_find2b R w (by omega) n1 h6.2.1 h6.2.2 hn) fun q13 h13 => zh_ite (fun _ => zh_ret ⟨h6.2.2, h13⟩) fun _ => zh_ret ⟨h6.2.2, h13⟩
theorem yw_byTwoX (R : yl_R L K V nc tS tL sP lP kd fr hf to mc C mk mf mh mt) (k : yk_sky t h u cl sc sr ch co ro br wc wr m) (z : yk_sea ts gp gl m) {s x y n w : Int} {f2 f4 f6 f8 f10 f12 f14 f18 f19 f20 f21 f23 f25 f27 f28 f29 f30 f31 : Int} {g1 g3 g5 g7 g9 g10 g12 g13 g18 g21 g22 g23 g24 g25 : Int → Int} (hle : yw_rg 264 g23) (hn : yw_rg 264 g25) :
    zh_ok (zf_X_byTwo s x y n w ts t f2 h f4 u f6 cl f8 sc f10 sr f12 ch f14 f18 f19 f20 f21 tS f23 nc f25 sP f27 f28 f29 f30 f31 co g1 ro g3 br g5 wc g7 wr g9 g10 gp g12 g13 kd hf to K g18 V gl g21 g22 g23 g24 g25) fun o => yw_rg 264 o.2.2.2.2.2.2.2.2.2.2.2.2.2.2.2.2.2.2.2.2.2.2.2.2.2.2.2.2.2.2.1 ∧ yw_rg 264 o.2.2.2.2.2.2.2.2.2.2.2.2.2.2.2.2.2.2.2.2.2.2.2.2.2.2.2.2.2.2.2.2 := by
  obtain ⟨⟨t1, t2, -⟩, hb⟩ := id z
  unfold zf_X_byTwo
  refine zh_bind (yw_ask t1 (by omega)) fun r1 h1 => zh_ite (fun _ => zh_ret ⟨hle, hn⟩) fun q1 => ?_
  obtain ⟨⟨s0, s1⟩, x0, x1, y0, y1⟩ := h1 q1
  rw [ze_X_isWithin, zl_b]
  refine zh_ite (fun _ => zh_ret ⟨hle, hn⟩) fun q2 => ?_
  rw [ze_X_isWithin, zl_b]
  refine zh_ite (fun _ => zh_ret ⟨hle, hn⟩) fun q3 => ?_
  obtain ⟨n0, n1⟩ := zs_in_ne q2
  unfold zf_Sky_copyFrom
  rw [zl_b]
  dsimp only
  obtain ⟨gA, e0, h0⟩ := ze_open (f := f18) (g := g10)
  rw [e0, zl_b, ze_X_placeOf x0 x1 y0 y1, zl_b]
  have hp := hb s s0 s1
  have k2 : yk_sky t h u cl sc sr ch (zv_cpy co g1 24) (zv_cpy ro g3 24) (zv_cpy br g5 24) (zv_cpy wc g7 24) (zv_cpy wr g9 24) m := yk_sky_cg k (fun j j1 j2 => zv_cpy_in j2) (fun j j1 j2 => zv_cpy_in j2) (fun j j1 j2 => zv_cpy_in j2) (fun j j1 j2 => zv_cpy_in j2) (fun j j1 j2 => zv_cpy_in j2) (fun _ _ _ => rfl)
  exact zh_cond (zi_ix_of s0 s1) (zh_bind (yw_find2 R ⟨gp, m, k, z⟩ ⟨gp, m, k2, z⟩ hp.1 hp.2 (by omega) n1 yv_ca0 hle hn) fun r11 h11 => zh_ite (fun _ => zh_ret h11) fun _ => zh_ite (fun _ => zh_ret h11) fun _ => zh_ite (fun _ => zh_ret h11) fun _ => zh_ite (fun _ => zh_ret h11) fun _ => zh_ret h11)
end YWF2
