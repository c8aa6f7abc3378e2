/-! fastest, byTwo: the class answers; the legs' places stay in the sea. -/
section YWF
variable {L : zLW} {K V kd fr hf to C mk mf mh mt : Int → Int} {nc tS tL sP lP mc : Int} {t h u cl sc sr ch ts p i : Int} {co ro br wc wr m gp gl : Int → Int}
def yw_wo (t h u cl sc sr ch ts : Int) (co ro br wc wr gl : Int → Int) : Prop := ∃ gp m, yk_sky t h u cl sc sr ch co ro br wc wr m ∧ yk_sea ts gp gl m
def yw_rn (g : Int → Int) : Prop := ∀ j, 0 ≤ j → j < 288 → g j = -1 ∨ (0 ≤ g j ∧ g j < 288)
theorem yw_rn_up {k v : Int} {g : Int → Int} (h : yw_rn g) (v0 : 0 ≤ v) (v1 : v < 288) : yw_rn (zv_up g k v) := fun j j0 j1 => by
  by_cases e : j = k
  · subst e; rw [zv_up_s]; exact Or.inr ⟨v0, v1⟩
  · rw [zv_up_n e]; exact h j j0 j1
theorem ze_fill288 {v : Int} {g : Int → Int} : ∃ g2, zf_Arrays_fill_288 v g = some g2 ∧ ∀ i, 0 ≤ i → i < 288 → g2 i = v := by
  obtain ⟨g2, e, a, -⟩ := ze_fill288_l0 (v := v) 288 0 g zi_fu rfl (by decide) (by decide)
  refine ⟨g2, ?_, a⟩
  unfold zf_Arrays_fill_288
  rw [e]; rfl
theorem yw_hs (h1 : 0 ≤ t) (h2 : t ≤ 2147483647) (q : ¬ zs_has 24 t i = 0) : zb t i.toNat = true := by
  rw [← zb_tb2 h1 h2]; exact (zs_has_ne q).2.2
theorem yw_turnX (w : yw_wo t h u cl sc sr ch ts co ro br wc wr gl) {as : Int} {g : Int → Int} : ∃ h' u' co' ro' g', zf_Pilot_turnOnward h u as co wc ro wr g = some (h', u', 0, co', ro', g') ∧ yw_wo t h' u' cl sc sr ch ts co' ro' br wc wr gl := by
  obtain ⟨gp, m, k, z⟩ := w
  obtain ⟨h', u', co', ro', m', e2, -, k3, e4⟩ := yk_pass k
  obtain ⟨g', e5, -⟩ := ze_open (f := as) (g := g)
  refine ⟨h', u', co', ro', g', ?_, gp, m', k3, yk_sea_fr z fun j hj => e4 j (by omega) (by omega) (by omega)⟩
  unfold zf_Pilot_turnOnward
  rw [e2, zl_b, e5, zl_b]
theorem yw_stepX (R : yl_R L K V nc tS tL sP lP kd fr hf to mc C mk mf mh mt) (w : yw_wo t h u cl sc sr ch ts co ro br wc wr gl) (p1 : 0 ≤ p) (p2 : p < 288) (i1 : 0 ≤ i) (i2 : i < 24) (hti : zb t i.toNat = true) {f2 f3 as ho f14 : Int} {g S : Int → Int} (hc : yv_ca L sP h u co ro br as ho) :
    zh_ok (zf_Pilot_step p i f2 f3 h u t sc sr cl tS as ho nc f14 sP g co ro br kd hf to K S V gl) fun o => 0 ≤ o.1 ∧ o.1 < 288 ∧ yv_ca L sP h u co ro br o.2.2.2.1 o.2.2.2.2.1 := by
  obtain ⟨gp, m, k, z⟩ := w
  obtain ⟨-, -, -, -, -, -, -, ki⟩ := id k
  obtain ⟨⟨-, ⟨r1, r2⟩, -⟩, -, -⟩ := ki i i1 i2
  obtain ⟨as', ho', a', g', S', e, hc'⟩ := yx_step (f2 := f2) (f3 := f3) (f14 := f14) (g := g) (S := S) R k z p1 p2 i1 i2 hti hc
  have hq : 0 ≤ (if yv_see L tS h u cl sc sr co ro br (p % 24) (p / 24) i = true then yg_st gl p (yg_tr (p % 24) (yv_st h co i)) (ro i - p / 24) else p) ∧ (if yv_see L tS h u cl sc sr co ro br (p % 24) (p / 24) i = true then yg_st gl p (yg_tr (p % 24) (yv_st h co i)) (ro i - p / 24) else p) < 288 := by
    split
    · exact yg_st_in p1 p2 (by omega) (by omega)
    · exact ⟨p1, p2⟩
  exact ⟨_, e, hq.1, hq.2, hc'⟩
theorem yw_sfl (R : yl_R L K V nc tS tL sP lP kd fr hf to mc C mk mf mh mt) (w : yw_wo t h u cl sc sr ch ts co ro br wc wr gl) {x y as ho a : Int} {G g S : Int → Int} (hc : yv_ca L sP h u co ro br as ho) (hG : yw_rg 24 G) :
    zh_ok (zf_Pilot_stepFirstLegs t x y h u sc sr cl tS as ho nc a sP G g co ro br kd hf to K S V gl) fun o => yv_ca L sP h u co ro br o.2.2.1 o.2.2.2.1 ∧ yw_rg 24 o.2.2.2.2.2.1 := by
  have tin : 0 ≤ t ∧ t ≤ 2147483647 := by obtain ⟨gp, m, ⟨⟨ht, -⟩, -⟩, -⟩ := w; exact ⟨ht.1, by have := ht.2; omega⟩
  unfold zf_Pilot_stepFirstLegs
  refine zh_bind (Q := fun o => yv_ca L sP h u co ro br o.2.2.1 o.2.2.2.1 ∧ yw_rg 24 o.2.2.2.2.2.1) (zh_loop (F := fun f j (b : Int × Int × Int × Int × Int × (Int → Int) × (Int → Int) × (Int → Int)) => zf_Pilot_stepFirstLegs_l0 t h u sc sr cl tS nc sP co ro br kd hf to K V gl f j b.1 b.2.1 b.2.2.1 b.2.2.2.1 b.2.2.2.2.1 b.2.2.2.2.2.1 b.2.2.2.2.2.2.1 b.2.2.2.2.2.2.2) (N := 24) (I := fun _ o => yv_ca L sP h u co ro br o.2.2.1 o.2.2.2.1 ∧ yw_rg 24 o.2.2.2.2.2.1) (fun f j b j0 j1 ha kk => ?_) 24 0 (x, y, as, ho, a, G, g, S) zi_fu (by decide) (by decide) (by decide) (by decide) ⟨hc, hG⟩) fun q hq => zh_ret hq
  obtain ⟨b1, b2, b3, b4, b5, b6, b7, b8⟩ := b
  show zh_ok (zf_Pilot_stepFirstLegs_l0_b t h u sc sr cl tS nc sP co ro br kd hf to K V gl (zf_Pilot_stepFirstLegs_l0 t h u sc sr cl tS nc sP co ro br kd hf to K V gl f) j b1 b2 b3 b4 b5 b6 b7 b8) _
  unfold zf_Pilot_stepFirstLegs_l0_b
  refine zh_ite (fun hj => ?_) fun _ => zh_ret ha
  rw [ze_Sky_hasStar tin.1 tin.2, zl_b, zi_w_id (x := j + 1) (by omega) (by omega)]
  have k2 : ∀ c1 c2 c3 c4 c5 c6 c7 c8, yv_ca L sP h u co ro br c3 c4 → yw_rg 24 c6 → zh_ok (zf_Pilot_stepFirstLegs_l0 t h u sc sr cl tS nc sP co ro br kd hf to K V gl f (j + 1) c1 c2 c3 c4 c5 c6 c7 c8) _ := fun c1 c2 c3 c4 c5 c6 c7 c8 q1 q2 => kk (c1, c2, c3, c4, c5, c6, c7, c8) hj ⟨q1, q2⟩
  refine zh_ite (fun _ => k2 _ _ _ _ _ _ _ _ ha.1 ha.2) fun q => ?_
  have hp := ha.2 j j0 hj
  exact zh_cond (zi_ix_of j0 hj) (zh_bind (yw_stepX R w hp.1 hp.2 j0 hj (yw_hs tin.1 tin.2 q) ha.1) fun r5 h5 => k2 _ _ _ _ _ _ _ _ h5.2.2 (yw_rg_up ha.2 h5.1 h5.2.1))
theorem yw_ffl1 {x4 x7 : Int} (h1 : 0 ≤ t) (h2 : t ≤ 2147483647) {f3 f4 f5 f6 f11 f12 f14 : Int} {g0 g1 g2 g3 g9 g14 : Int → Int} :
    zh_ok (zf_Pilot_findFastest_l1 x4 x7 t f3 f4 f5 f6 f11 f12 f14 g0 g1 g2 g3 g9 g14 zi_fu 0) fun _ => True := by
  refine zh_loop (F := fun f j (_ : Unit) => zf_Pilot_findFastest_l1 x4 x7 t f3 f4 f5 f6 f11 f12 f14 g0 g1 g2 g3 g9 g14 f j) (N := 24) (I := fun _ _ => True) (fun f j b j0 j1 _ kk => ?_) 24 0 () zi_fu (by decide) (by decide) (by decide) (by decide) trivial
  show zh_ok (zf_Pilot_findFastest_l1_b x4 x7 t f3 f4 f5 f6 f11 f12 f14 g0 g1 g2 g3 g9 g14 (zf_Pilot_findFastest_l1 x4 x7 t f3 f4 f5 f6 f11 f12 f14 g0 g1 g2 g3 g9 g14 f) j) _
  unfold zf_Pilot_findFastest_l1_b
  refine zh_ite (fun hj => ?_) fun _ => zh_ret trivial
  rw [ze_Sky_hasStar h1 h2, zl_b, zi_w_id (x := j + 1) (by omega) (by omega)]
  exact zh_ite (fun _ => kk () hj trivial) fun _ => zh_cond (zi_ix_of j0 hj) (zh_ite (fun _ => zh_ret trivial) fun _ => kk () hj trivial)
theorem yw_findF (R : yl_R L K V nc tS tL sP lP kd fr hf to mc C mk mf mh mt) (w : yw_wo t h u cl sc sr ch ts co ro br wc wr gl) {x3 x4 x5 x y as ho a f16 f17 : Int} {G g S A : Int → Int} (hc : yv_ca L sP h u co ro br as ho) (q3 : 0 ≤ x3) (q4 : x3 < 288) (q5 : 0 ≤ x5) (q6 : x5 ≤ 48) :
    zh_ok (zf_Pilot_findFastest x3 x4 x5 t x y h u sc sr cl tS as ho nc a sP f16 f17 G g co ro br kd hf to K S V gl wc wr A) fun _ => True := by
  have tin : 0 ≤ t ∧ t ≤ 2147483647 := by obtain ⟨gp, m, ⟨⟨ht, -⟩, -⟩, -⟩ := w; exact ⟨ht.1, by have := ht.2; omega⟩
  unfold zf_Pilot_findFastest
  refine zh_ite (fun _ => zh_bind (zh_bind zh_bc fun _ _ => zh_ret (P := fun _ => True) trivial) fun _ _ => zh_ret trivial) fun _ => ?_
  obtain ⟨G2, e1, hG⟩ := ze_fill24 (v := x3) (g := G)
  have hG2 : yw_rg 24 G2 := fun j j0 j1 => by rw [hG j j0 j1]; exact ⟨q3, q4⟩
  rw [e1, zl_b]
  refine zh_sum (Q := fun _ => True) (zh_loop (F := fun f j (b : Int × Int × Int × Int × Int × Int × Int × (Int → Int) × (Int → Int) × (Int → Int) × (Int → Int) × (Int → Int) × (Int → Int)) => zf_Pilot_findFastest_l0 x4 x5 t sc sr cl tS nc sP br kd hf to K V gl wc wr f j b.1 b.2.1 b.2.2.1 b.2.2.2.1 b.2.2.2.2.1 b.2.2.2.2.2.1 b.2.2.2.2.2.2.1 b.2.2.2.2.2.2.2.1 b.2.2.2.2.2.2.2.2.1 b.2.2.2.2.2.2.2.2.2.1 b.2.2.2.2.2.2.2.2.2.2.1 b.2.2.2.2.2.2.2.2.2.2.2.1 b.2.2.2.2.2.2.2.2.2.2.2.2) (N := x5 + 1) (I := fun _ o => yw_wo t o.2.2.1 o.2.2.2.1 cl sc sr ch ts o.2.2.2.2.2.2.2.2.2.1 o.2.2.2.2.2.2.2.2.2.2.1 br wc wr gl ∧ yv_ca L sP o.2.2.1 o.2.2.2.1 o.2.2.2.2.2.2.2.2.2.1 o.2.2.2.2.2.2.2.2.2.2.1 br o.2.2.2.2.1 o.2.2.2.2.2.1 ∧ yw_rg 24 o.2.2.2.2.2.2.2.1) (fun f j b j0 j1 ha kk => ?_) 49 1 (x, y, h, u, as, ho, a, G2, g, co, ro, S, A) zi_fu (by omega) (by decide) (by omega) (by decide) ⟨w, hc, hG2⟩) (fun _ _ => zh_ret trivial) fun _ _ => zh_ret trivial
  obtain ⟨b1, b2, b3, b4, b5, b6, b7, b8, b9, b10, b11, b12, b13⟩ := b
  show zh_ok (zf_Pilot_findFastest_l0_b x4 x5 t sc sr cl tS nc sP br kd hf to K V gl wc wr (zf_Pilot_findFastest_l0 x4 x5 t sc sr cl tS nc sP br kd hf to K V gl wc wr f) j b1 b2 b3 b4 b5 b6 b7 b8 b9 b10 b11 b12 b13) _
  unfold zf_Pilot_findFastest_l0_b
  refine zh_ite (fun _ => zh_ret trivial) fun hj => ?_
  rw [zi_w_id (x := j + 1) (by omega) (by omega)]
  obtain ⟨w2, c2, G3⟩ := ha
  refine zh_bind (yw_sfl R w2 c2 G3) fun r4 h4 => zh_sum (Q := fun _ => True) (yw_ffl1 tin.1 tin.2) (fun e _ => ?_) fun _ _ => zh_ret trivial
  obtain ⟨h', u', co', ro', g', e7, w3⟩ := yw_turnX (as := r4.2.2.1) (g := b13) w2
  show zh_ok ((zf_Pilot_turnOnward b3 b4 r4.2.2.1 b10 wc b11 wr b13).bind _) _
  rw [e7, zl_b]
  exact kk (r4.1, r4.2.1, h', u', 0, r4.2.2.2.1, r4.2.2.2.2.1, r4.2.2.2.2.2.1, r4.2.2.2.2.2.2.1, co', ro', r4.2.2.2.2.2.2.2, g') (by omega) ⟨w3, yv_ca0, h4.2⟩
theorem yw_ask {s x y : Int} (h1 : 0 ≤ ts) (h2 : ts ≤ 2147483647) : zh_ok (zf_X_canAskVoyage s x y ts t) fun r => ¬ r = 0 → (0 ≤ s ∧ s < 6) ∧ 0 ≤ x ∧ x < 24 ∧ 0 ≤ y ∧ y < 12 := by
  unfold zf_X_canAskVoyage
  rw [ze_Sea_hasShip h1 h2, zl_b]
  refine zh_ite (fun _ => zh_ret fun q => absurd rfl q) fun q1 => ?_
  rw [ze_X_isPlace, zl_b]
  refine zh_ite (fun _ => zh_ret fun q => absurd rfl q) fun q2 => zh_ite (fun _ => zh_ret fun q => absurd rfl q) fun _ => zh_ret fun _ => ⟨⟨(zs_has_ne q1).1, (zs_has_ne q1).2.1⟩, zs_pl_ne q2⟩
theorem yw_fastestX (R : yl_R L K V nc tS tL sP lP kd fr hf to mc C mk mf mh mt) (k : yk_sky t h u cl sc sr ch co ro br wc wr m) (z : yk_sea ts gp gl m) {s x y n w : Int} {f2 f4 f6 f8 f10 f12 f14 f18 f19 f20 f22 f24 f26 f27 : Int} {g1 g3 g5 g7 g9 g10 g12 g13 g18 : Int → Int} :
    zh_ok (zf_X_fastest s x y n w ts t f2 h f4 u f6 cl f8 sc f10 sr f12 ch f14 f18 f19 f20 tS f22 nc f24 sP f26 f27 co g1 ro g3 br g5 wc g7 wr g9 g10 gp g12 g13 kd hf to K g18 V gl) fun _ => True := by
  obtain ⟨⟨t1, t2, -⟩, hb⟩ := id z
  unfold zf_X_fastest
  refine zh_bind (yw_ask t1 (by omega)) fun r1 h1 => zh_ite (fun _ => zh_ret trivial) fun q1 => ?_
  obtain ⟨⟨s0, s1⟩, x0, x1, y0, y1⟩ := h1 q1
  rw [ze_X_isWithin, zl_b]
  refine zh_ite (fun _ => zh_ret trivial) fun q2 => ?_
  rw [ze_X_isWithin, zl_b]
  refine zh_ite (fun _ => zh_ret trivial) fun q3 => ?_
  obtain ⟨n0, n1⟩ := zs_in_ne q2
  unfold zf_Sky_copyFrom
  rw [zl_b]
  dsimp only
  obtain ⟨gA, e0, h0⟩ := ze_open (f := f18) (g := g10)
  rw [e0, zl_b, ze_X_placeOf x0 x1 y0 y1, zl_b]
  have hp := hb s s0 s1
  have k2 : yk_sky t h u cl sc sr ch (zv_cpy co g1 24) (zv_cpy ro g3 24) (zv_cpy br g5 24) (zv_cpy wc g7 24) (zv_cpy wr g9 24) m := yk_sky_cg k (fun j j1 j2 => zv_cpy_in j2) (fun j j1 j2 => zv_cpy_in j2) (fun j j1 j2 => zv_cpy_in j2) (fun j j1 j2 => zv_cpy_in j2) (fun j j1 j2 => zv_cpy_in j2) (fun _ _ _ => rfl)
  exact zh_cond (zi_ix_of s0 s1) (zh_bind (yw_findF R ⟨gp, m, k2, z⟩ yv_ca0 hp.1 hp.2 (by omega) n1) fun r11 _ => zh_ite (fun _ => zh_ret trivial) fun _ => zh_ite (fun _ => zh_ret trivial) fun _ => zh_ret trivial)
end YWF
