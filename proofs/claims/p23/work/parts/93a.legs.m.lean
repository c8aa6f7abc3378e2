/-! 93a.legs, 93b.fast, 93c.mfast, 93d.fastest, 93e.count, 93f.maps, 93g.match, 93h.begin, 93i.inv, 93j.search, 93k.refer, 93l.first, 93m.told, 93n.where, 93o.when, 93p.gosper, 93q.hidden, 93r.hides, 93s.log, 93t.bits28, 93u.cover -/
section
/-! fastest: both sides answer the same. -/
section YLG
variable {L : zLW} {K V kd fr hf to C mk mf mh mt : Int → Int} {nc tS tL sP lP mc : Int} {t h u cl sc sr ch ts p i s : Int} {co ro br wc wr m gp gl : Int → Int} {hs us : Nat → Int} {cs rs : Nat → Int → Int}
/-- the place an hour on -/
def yw_nx (L : zLW) (tS cl sc sr h u : Int) (co ro br gl : Int → Int) (p i : Int) : Int := if yv_see L tS h u cl sc sr co ro br (p % 24) (p / 24) i = true then yg_st gl p (yg_tr (p % 24) (yv_st h co i)) (ro i - p / 24) else p
/-- the skies of the hours that come -/
def yw_sq (t h u cl sc sr ch ts : Int) (co ro br wc wr gl : Int → Int) (hs us : Nat → Int) (cs rs : Nat → Int → Int) : Prop :=
  (hs 0 = h ∧ us 0 = u ∧ cs 0 = co ∧ rs 0 = ro) ∧ ∀ k, zf_Sky_passHour (hs k) (us k) (cs k) wc (rs k) wr = some (hs (k + 1), us (k + 1), cs (k + 1), rs (k + 1)) ∧ yw_wo t (hs k) (us k) cl sc sr ch ts (cs k) (rs k) br wc wr gl
theorem yw_sq_ex (w : yw_wo t h u cl sc sr ch ts co ro br wc wr gl) : ∃ hs us cs rs, yw_sq t h u cl sc sr ch ts co ro br wc wr gl hs us cs rs := by
  have nx : ∀ q : {q : Int × Int × (Int → Int) × (Int → Int) // yw_wo t q.1 q.2.1 cl sc sr ch ts q.2.2.1 q.2.2.2 br wc wr gl}, ∃ q2 : {q : Int × Int × (Int → Int) × (Int → Int) // yw_wo t q.1 q.2.1 cl sc sr ch ts q.2.2.1 q.2.2.2 br wc wr gl}, zf_Sky_passHour q.1.1 q.1.2.1 q.1.2.2.1 wc q.1.2.2.2 wr = some q2.1 := fun q => by
    obtain ⟨gp, m, k, z⟩ := q.2
    obtain ⟨h', u', co', ro', m', e2, -, k3, e4⟩ := yk_pass k
    exact ⟨⟨(h', u', co', ro'), gp, m', k3, yk_sea_fr z fun j hj => e4 j (by omega) (by omega) (by omega)⟩, e2⟩
  obtain ⟨F, hF⟩ := Classical.axiomOfChoice nx
  refine ⟨fun k => (Nat.rec (motive := fun _ => {q : Int × Int × (Int → Int) × (Int → Int) // yw_wo t q.1 q.2.1 cl sc sr ch ts q.2.2.1 q.2.2.2 br wc wr gl}) ⟨(h, u, co, ro), w⟩ (fun _ q => F q) k).1.1, fun k => (Nat.rec (motive := fun _ => {q : Int × Int × (Int → Int) × (Int → Int) // yw_wo t q.1 q.2.1 cl sc sr ch ts q.2.2.1 q.2.2.2 br wc wr gl}) ⟨(h, u, co, ro), w⟩ (fun _ q => F q) k).1.2.1, fun k => (Nat.rec (motive := fun _ => {q : Int × Int × (Int → Int) × (Int → Int) // yw_wo t q.1 q.2.1 cl sc sr ch ts q.2.2.1 q.2.2.2 br wc wr gl}) ⟨(h, u, co, ro), w⟩ (fun _ q => F q) k).1.2.2.1, fun k => (Nat.rec (motive := fun _ => {q : Int × Int × (Int → Int) × (Int → Int) // yw_wo t q.1 q.2.1 cl sc sr ch ts q.2.2.1 q.2.2.2 br wc wr gl}) ⟨(h, u, co, ro), w⟩ (fun _ q => F q) k).1.2.2.2, ⟨rfl, rfl, rfl, rfl⟩, fun k => ⟨hF _, (Nat.rec (motive := fun _ => {q : Int × Int × (Int → Int) × (Int → Int) // yw_wo t q.1 q.2.1 cl sc sr ch ts q.2.2.1 q.2.2.2 br wc wr gl}) ⟨(h, u, co, ro), w⟩ (fun _ q => F q) k).2⟩⟩
def yw_pos (L : zLW) (tS cl sc sr : Int) (hs us : Nat → Int) (cs rs : Nat → Int → Int) (br gl : Int → Int) (p0 i : Int) : Nat → Int
  | 0 => p0
  | k + 1 => yw_nx L tS cl sc sr (hs k) (us k) (cs k) (rs k) br gl (yw_pos L tS cl sc sr hs us cs rs br gl p0 i k) i
theorem yw_nx_in (w : yw_wo t h u cl sc sr ch ts co ro br wc wr gl) (p1 : 0 ≤ p) (p2 : p < 288) (i1 : 0 ≤ i) (i2 : i < 24) : 0 ≤ yw_nx L tS cl sc sr h u co ro br gl p i ∧ yw_nx L tS cl sc sr h u co ro br gl p i < 288 := by
  obtain ⟨gp, m, ⟨-, -, -, -, -, -, -, ki⟩, -⟩ := w
  obtain ⟨⟨-, ⟨r1, r2⟩, -⟩, -, -⟩ := ki i i1 i2
  unfold yw_nx
  split
  · exact yg_st_in p1 p2 (by omega) (by omega)
  · exact ⟨p1, p2⟩
theorem yw_pos_in (q : yw_sq t h u cl sc sr ch ts co ro br wc wr gl hs us cs rs) (p1 : 0 ≤ p) (p2 : p < 288) (i1 : 0 ≤ i) (i2 : i < 24) : ∀ k, 0 ≤ yw_pos L tS cl sc sr hs us cs rs br gl p i k ∧ yw_pos L tS cl sc sr hs us cs rs br gl p i k < 288
  | 0 => ⟨p1, p2⟩
  | k + 1 => by
    obtain ⟨a, b⟩ := yw_pos_in q p1 p2 i1 i2 k
    exact yw_nx_in (q.2 k).2 a b i1 i2
theorem yw_stepE (R : yl_R L K V nc tS tL sP lP kd fr hf to mc C mk mf mh mt) (w : yw_wo t h u cl sc sr ch ts co ro br wc wr gl) (p1 : 0 ≤ p) (p2 : p < 288) (i1 : 0 ≤ i) (i2 : i < 24) (hti : zb t i.toNat = true) {f2 f3 as ho f14 : Int} {g S : Int → Int} (hc : yv_ca L sP h u co ro br as ho) :
    zh_ok (zf_Pilot_step p i f2 f3 h u t sc sr cl tS as ho nc f14 sP g co ro br kd hf to K S V gl) fun o => o.1 = yw_nx L tS cl sc sr h u co ro br gl p i ∧ yv_ca L sP h u co ro br o.2.2.2.1 o.2.2.2.2.1 := by
  obtain ⟨gp, m, k, z⟩ := w
  obtain ⟨as', ho', a', g', S', e, hc'⟩ := yx_step (f2 := f2) (f3 := f3) (f14 := f14) (g := g) (S := S) R k z p1 p2 i1 i2 hti hc
  exact ⟨_, e, rfl, hc'⟩
/-- all first legs, an hour on -/
theorem yw_sflE (R : yl_R L K V nc tS tL sP lP kd fr hf to mc C mk mf mh mt) (w : yw_wo t h u cl sc sr ch ts co ro br wc wr gl) {x y as ho a : Int} {G g S : Int → Int} (hc : yv_ca L sP h u co ro br as ho) (hG : ∀ i, 0 ≤ i → i < 24 → zb t i.toNat = true → 0 ≤ G i ∧ G i < 288) :
    zh_ok (zf_Pilot_stepFirstLegs t x y h u sc sr cl tS as ho nc a sP G g co ro br kd hf to K S V gl) fun o => yv_ca L sP h u co ro br o.2.2.1 o.2.2.2.1 ∧ ∀ i, 0 ≤ i → i < 24 → zb t i.toNat = true → o.2.2.2.2.2.1 i = yw_nx L tS cl sc sr h u co ro br gl (G i) i := by
  have tin : 0 ≤ t ∧ t ≤ 2147483647 := by obtain ⟨gp, m, ⟨⟨ht, -⟩, -⟩, -⟩ := w; exact ⟨ht.1, by have := ht.2; omega⟩
  unfold zf_Pilot_stepFirstLegs
  refine zh_bind (Q := fun o => yv_ca L sP h u co ro br o.2.2.1 o.2.2.2.1 ∧ ∀ i, 0 ≤ i → i < 24 → zb t i.toNat = true → o.2.2.2.2.2.1 i = yw_nx L tS cl sc sr h u co ro br gl (G i) i) (zh_loop (F := fun f j (b : Int × Int × Int × Int × Int × (Int → Int) × (Int → Int) × (Int → Int)) => zf_Pilot_stepFirstLegs_l0 t h u sc sr cl tS nc sP co ro br kd hf to K V gl f j b.1 b.2.1 b.2.2.1 b.2.2.2.1 b.2.2.2.2.1 b.2.2.2.2.2.1 b.2.2.2.2.2.2.1 b.2.2.2.2.2.2.2) (N := 24) (I := fun j o => yv_ca L sP h u co ro br o.2.2.1 o.2.2.2.1 ∧ (∀ i, 0 ≤ i → i < j → zb t i.toNat = true → o.2.2.2.2.2.1 i = yw_nx L tS cl sc sr h u co ro br gl (G i) i) ∧ ∀ i, j ≤ i → o.2.2.2.2.2.1 i = G i) (fun f j b j0 j1 ha kk => ?_) 24 0 (x, y, as, ho, a, G, g, S) zi_fu (by decide) (by decide) (by decide) (by decide) ⟨hc, fun i i0 i1 => by omega, fun _ _ => rfl⟩) fun q hq => zh_ret hq
  obtain ⟨b1, b2, b3, b4, b5, b6, b7, b8⟩ := b
  obtain ⟨a1, a2, a3⟩ := ha
  dsimp only at a1 a2 a3
  show zh_ok (zf_Pilot_stepFirstLegs_l0_b t h u sc sr cl tS nc sP co ro br kd hf to K V gl (zf_Pilot_stepFirstLegs_l0 t h u sc sr cl tS nc sP co ro br kd hf to K V gl f) j b1 b2 b3 b4 b5 b6 b7 b8) _
  unfold zf_Pilot_stepFirstLegs_l0_b
  refine zh_ite (fun hj => ?_) fun hj => zh_ret ⟨a1, fun i i0 i1 ht => a2 i i0 (by omega) ht⟩
  rw [ze_Sky_hasStar tin.1 tin.2, zl_b, zi_w_id (x := j + 1) (by omega) (by omega)]
  have k2 : ∀ c1 c2 c3 c4 c5 c6 c7 c8, yv_ca L sP h u co ro br c3 c4 → (∀ i, 0 ≤ i → i < j + 1 → zb t i.toNat = true → c6 i = yw_nx L tS cl sc sr h u co ro br gl (G i) i) → (∀ i, j + 1 ≤ i → c6 i = G i) → zh_ok (zf_Pilot_stepFirstLegs_l0 t h u sc sr cl tS nc sP co ro br kd hf to K V gl f (j + 1) c1 c2 c3 c4 c5 c6 c7 c8) _ := fun c1 c2 c3 c4 c5 c6 c7 c8 q1 q2 q3 => kk (c1, c2, c3, c4, c5, c6, c7, c8) hj ⟨q1, q2, q3⟩
  refine zh_ite (fun q => k2 _ _ _ _ _ _ _ _ a1 (fun i i0 i1 ht => ?_) fun i i1 => a3 i (by omega)) fun q => ?_
  · by_cases e : i = j
    · subst e
      have : zs_has 24 t i = 1 := by
        unfold zs_has
        rw [if_pos ⟨i0, hj, by rw [zb_tb2 tin.1 tin.2]; exact ht⟩]
      rw [this] at q
      exact absurd q (by decide)
    · exact a2 i i0 (by omega) ht
  · have hti := yw_hs tin.1 tin.2 q
    have hp := hG j j0 hj hti
    have ej := a3 j (Int.le_refl j)
    rw [ej]
    refine zh_cond (zi_ix_of j0 hj) (zh_bind (yw_stepE R w hp.1 hp.2 j0 hj hti a1) fun r5 h5 => k2 _ _ _ _ _ _ _ _ h5.2 (fun i i0 i1 ht => ?_) fun i i1 => ?_)
    · by_cases e : i = j
      · subst e; rw [zv_up_s]; exact h5.1
      · rw [zv_up_n e]; exact a2 i i0 (by omega) ht
    · rw [zv_up_n (by omega)]; exact a3 i (by omega)
end YLG
end
section
/-! fastest in the class: the first hour, the first star. -/
section YLF
variable {L : zLW} {K V kd fr hf to C mk mf mh mt : Int → Int} {nc tS tL sP lP mc : Int} {t h u cl sc sr ch ts p i s : Int} {co ro br wc wr m gp gl : Int → Int} {hs us : Nat → Int} {cs rs : Nat → Int → Int}
def yw_hit (t : Int) (P : Int → Nat → Int) (pl : Int) (n k : Nat) (i : Int) : Prop := (1 ≤ k ∧ k ≤ n) ∧ (0 ≤ i ∧ i < 24 ∧ zb t i.toNat = true ∧ P i k = pl) ∧ (∀ j, 0 ≤ j → j < i → zb t j.toNat = true → P j k ≠ pl) ∧ ∀ l j, 1 ≤ l → l < k → 0 ≤ j → j < 24 → zb t j.toNat = true → P j l ≠ pl
def yw_noh (t : Int) (P : Int → Nat → Int) (pl : Int) (n : Nat) : Prop := ∀ l j, 1 ≤ l → l ≤ n → 0 ≤ j → j < 24 → zb t j.toNat = true → P j l ≠ pl
theorem yw_turnE (q : yw_sq t h u cl sc sr ch ts co ro br wc wr gl hs us cs rs) {k : Nat} {as : Int} {g : Int → Int} : ∃ g', zf_Pilot_turnOnward (hs k) (us k) as (cs k) wc (rs k) wr g = some (hs (k + 1), us (k + 1), 0, cs (k + 1), rs (k + 1), g') := by
  obtain ⟨g', e5, -⟩ := ze_open (f := as) (g := g)
  refine ⟨g', ?_⟩
  unfold zf_Pilot_turnOnward
  rw [(q.2 k).1, zl_b, e5, zl_b]
theorem yw_l1E {x4 x7 : Int} (h1 : 0 ≤ t) (h2 : t ≤ 2147483647) {f3 f4 f5 f6 f11 f12 f14 : Int} {g0 g1 g2 g3 g9 g14 : Int → Int} :
    zh_ok (zf_Pilot_findFastest_l1 x4 x7 t f3 f4 f5 f6 f11 f12 f14 g0 g1 g2 g3 g9 g14 zi_fu 0) fun o => match o with
      | .inl _ => ∀ i, 0 ≤ i → i < 24 → zb t i.toNat = true → g0 i ≠ x4
      | .inr b => b.1 = 1 ∧ b.2.2.2.2.2.2.2.2.1 = x7 ∧ ∃ i, (0 ≤ i ∧ i < 24 ∧ zb t i.toNat = true ∧ g0 i = x4) ∧ (∀ j, 0 ≤ j → j < i → zb t j.toNat = true → g0 j ≠ x4) ∧ b.2.2.2.2.2.2.2.2.2.1 = i := by
  refine zh_loop (F := fun f j (_ : Unit) => zf_Pilot_findFastest_l1 x4 x7 t f3 f4 f5 f6 f11 f12 f14 g0 g1 g2 g3 g9 g14 f j) (N := 24) (I := fun j _ => ∀ i, 0 ≤ i → i < j → zb t i.toNat = true → g0 i ≠ x4) (fun f j b j0 j1 ha kk => ?_) 24 0 () zi_fu (by decide) (by decide) (by decide) (by decide) (fun i i0 i1 => by omega)
  show zh_ok (zf_Pilot_findFastest_l1_b x4 x7 t f3 f4 f5 f6 f11 f12 f14 g0 g1 g2 g3 g9 g14 (zf_Pilot_findFastest_l1 x4 x7 t f3 f4 f5 f6 f11 f12 f14 g0 g1 g2 g3 g9 g14 f) j) _
  unfold zf_Pilot_findFastest_l1_b
  refine zh_ite (fun hj => ?_) fun hj => zh_ret fun i i0 i1 ht => ha i i0 (by omega) ht
  rw [ze_Sky_hasStar h1 h2, zl_b, zi_w_id (x := j + 1) (by omega) (by omega)]
  refine zh_ite (fun q => kk () hj fun i i0 i1 ht => ?_) fun q => zh_cond (zi_ix_of j0 hj) (zh_ite (fun e => zh_ret ⟨rfl, rfl, j, ⟨j0, hj, yw_hs h1 h2 q, e⟩, ha, rfl⟩) fun e => kk () hj fun i i0 i1 ht => ?_)
  · by_cases e : i = j
    · subst e
      have : zs_has 24 t i = 1 := by
        unfold zs_has
        rw [if_pos ⟨i0, hj, by rw [zb_tb2 h1 h2]; exact ht⟩]
      rw [this] at q
      exact absurd q (by decide)
    · exact ha i i0 (by omega) ht
  · by_cases e2 : i = j
    · subst e2; exact e
    · exact ha i i0 (by omega) ht
theorem yw_findFE (R : yl_R L K V nc tS tL sP lP kd fr hf to mc C mk mf mh mt) (q : yw_sq t h u cl sc sr ch ts co ro br wc wr gl hs us cs rs) {x3 x4 x5 x y as ho a f16 f17 : Int} {G g S A : Int → Int} (hc : yv_ca L sP h u co ro br as ho) (q3 : 0 ≤ x3) (q4 : x3 < 288) (q5 : 0 ≤ x5) (q6 : x5 ≤ 48) (hne : x3 ≠ x4) :
    zh_ok (zf_Pilot_findFastest x3 x4 x5 t x y h u sc sr cl tS as ho nc a sP f16 f17 G g co ro br kd hf to K S V gl wc wr A) fun o => (o.1 = 1 ∧ ∃ (k : Nat) (i : Int), yw_hit t (fun i => yw_pos L tS cl sc sr hs us cs rs br gl x3 i) x4 x5.toNat k i ∧ o.2.2.2.2.2.2.2.2.1 = k ∧ o.2.2.2.2.2.2.2.2.2.1 = i) ∨ (o.1 = 0 ∧ yw_noh t (fun i => yw_pos L tS cl sc sr hs us cs rs br gl x3 i) x4 x5.toNat) := by
  have w : yw_wo t h u cl sc sr ch ts co ro br wc wr gl := by
    obtain ⟨⟨rfl, rfl, rfl, rfl⟩, q2⟩ := q
    exact (q2 0).2
  have tin : 0 ≤ t ∧ t ≤ 2147483647 := by obtain ⟨gp, m, ⟨⟨ht, -⟩, -⟩, -⟩ := w; exact ⟨ht.1, by have := ht.2; omega⟩
  unfold zf_Pilot_findFastest
  rw [if_neg hne]
  obtain ⟨G2, e1, hG⟩ := ze_fill24 (v := x3) (g := G)
  rw [e1, zl_b]
  refine zh_sum (Q := fun o => match o with
    | .inl _ => yw_noh t (fun i => yw_pos L tS cl sc sr hs us cs rs br gl x3 i) x4 x5.toNat
    | .inr o => o.1 = 1 ∧ ∃ (k : Nat) (i : Int), yw_hit t (fun i => yw_pos L tS cl sc sr hs us cs rs br gl x3 i) x4 x5.toNat k i ∧ o.2.2.2.2.2.2.2.2.1 = k ∧ o.2.2.2.2.2.2.2.2.2.1 = i) (zh_loop (F := fun f j (b : Int × Int × Int × Int × Int × Int × Int × (Int → Int) × (Int → Int) × (Int → Int) × (Int → Int) × (Int → Int) × (Int → Int)) => zf_Pilot_findFastest_l0 x4 x5 t sc sr cl tS nc sP br kd hf to K V gl wc wr f j b.1 b.2.1 b.2.2.1 b.2.2.2.1 b.2.2.2.2.1 b.2.2.2.2.2.1 b.2.2.2.2.2.2.1 b.2.2.2.2.2.2.2.1 b.2.2.2.2.2.2.2.2.1 b.2.2.2.2.2.2.2.2.2.1 b.2.2.2.2.2.2.2.2.2.2.1 b.2.2.2.2.2.2.2.2.2.2.2.1 b.2.2.2.2.2.2.2.2.2.2.2.2) (N := x5 + 1) (I := fun j o => ∃ k : Nat, j = k + 1 ∧ (o.2.2.1 = hs k ∧ o.2.2.2.1 = us k ∧ o.2.2.2.2.2.2.2.2.2.1 = cs k ∧ o.2.2.2.2.2.2.2.2.2.2.1 = rs k) ∧ yv_ca L sP (hs k) (us k) (cs k) (rs k) br o.2.2.2.2.1 o.2.2.2.2.2.1 ∧ (∀ i, 0 ≤ i → i < 24 → zb t i.toNat = true → o.2.2.2.2.2.2.2.1 i = yw_pos L tS cl sc sr hs us cs rs br gl x3 i k) ∧ yw_noh t (fun i => yw_pos L tS cl sc sr hs us cs rs br gl x3 i) x4 k) (fun f j b j0 j1 ha kk => ?_) 49 1 (x, y, h, u, as, ho, a, G2, g, co, ro, S, A) zi_fu (by omega) (by decide) (by omega) (by decide) ⟨0, rfl, ⟨q.1.1.symm, q.1.2.1.symm, q.1.2.2.1.symm, q.1.2.2.2.symm⟩, by rw [q.1.1, q.1.2.1, q.1.2.2.1, q.1.2.2.2]; exact hc, fun i i0 i1 _ => hG i i0 i1, fun l j l1 l2 => by omega⟩) (fun _ hq => zh_ret (.inr ⟨rfl, hq⟩)) fun _ hq => zh_ret (.inl hq)
  obtain ⟨b1, b2, b3, b4, b5, b6, b7, b8, b9, b10, b11, b12, b13⟩ := b
  obtain ⟨k, ek, ⟨rfl, rfl, rfl, rfl⟩, c2, hp, hn⟩ := ha
  dsimp only at c2 hp
  show zh_ok (zf_Pilot_findFastest_l0_b x4 x5 t sc sr cl tS nc sP br kd hf to K V gl wc wr (zf_Pilot_findFastest_l0 x4 x5 t sc sr cl tS nc sP br kd hf to K V gl wc wr f) j b1 b2 (hs k) (us k) b5 b6 b7 b8 b9 (cs k) (rs k) b12 b13) _
  unfold zf_Pilot_findFastest_l0_b
  refine zh_ite (fun hlt => zh_ret fun l j2 l1 l2 => hn l j2 l1 (by omega)) fun hle => ?_
  rw [zi_w_id (x := j + 1) (by omega) (by omega)]
  refine zh_bind (yw_sflE R (q.2 k).2 c2 fun i i0 i1 ht => by rw [hp i i0 i1 ht]; exact yw_pos_in q q3 q4 i0 i1 k) fun r4 h4 => ?_
  have hp2 : ∀ i, 0 ≤ i → i < 24 → zb t i.toNat = true → r4.2.2.2.2.2.1 i = yw_pos L tS cl sc sr hs us cs rs br gl x3 i (k + 1) := fun i i0 i1 ht => by
    rw [h4.2 i i0 i1 ht, hp i i0 i1 ht]; rfl
  refine zh_bind (yw_l1E tin.1 tin.2) fun o ho => ?_
  match o, ho with
  | .inl e, ho =>
    obtain ⟨g', e7⟩ := yw_turnE (k := k) (as := r4.2.2.1) (g := b13) q
    show zh_ok ((zf_Pilot_turnOnward (hs k) (us k) r4.2.2.1 (cs k) wc (rs k) wr b13).bind _) _
    rw [e7, zl_b]
    refine kk (r4.1, r4.2.1, hs (k + 1), us (k + 1), 0, r4.2.2.2.1, r4.2.2.2.2.1, r4.2.2.2.2.2.1, r4.2.2.2.2.2.2.1, cs (k + 1), rs (k + 1), r4.2.2.2.2.2.2.2, g') (by omega) ⟨k + 1, by omega, ⟨rfl, rfl, rfl, rfl⟩, yv_ca0, hp2, fun l j2 l1 l2 j3 j4 ht => ?_⟩
    by_cases e2 : l = k + 1
    · subst e2
      show yw_pos L tS cl sc sr hs us cs rs br gl x3 j2 (k + 1) ≠ x4
      rw [← hp2 j2 j3 j4 ht]
      exact ho j2 j3 j4 ht
    · exact hn l j2 l1 (by omega) j3 j4 ht
  | .inr e, ho =>
    obtain ⟨o1, o2, i, ⟨i0, i1, ht, e3⟩, o3, o4⟩ := ho
    refine zh_ret ⟨o1, k + 1, i, ⟨⟨by omega, by omega⟩, ⟨i0, i1, ht, by show yw_pos L tS cl sc sr hs us cs rs br gl x3 i (k + 1) = x4; rw [← hp2 i i0 i1 ht]; exact e3⟩, fun j2 j3 j4 ht2 => ?_, fun l j2 l1 l2 => hn l j2 l1 (by omega)⟩, by rw [o2, ek]; omega, o4⟩
    show yw_pos L tS cl sc sr hs us cs rs br gl x3 j2 (k + 1) ≠ x4
    rw [← hp2 j2 j3 (by omega) ht2]
    exact o3 j2 j3 j4 ht2
end YLF
end
section
/-! fastest in the reference: the first hour, the first star; both the same. -/
section YLM
variable {L : zLW} {K V kd fr hf to C mk mf mh mt : Int → Int} {nc tS tL sP lP mc : Int} {t h u cl sc sr ch ts p i s : Int} {co ro br wc wr m gp gl : Int → Int} {hs us : Nat → Int} {cs rs : Nat → Int → Int}
/-- the reference at hour k, the ship at q -/
def yw_mk (t cl sc sr ch ts s : Int) (br wc wr gl : Int → Int) (hs us : Nat → Int) (cs rs : Nat → Int → Int) (k : Nat) (q : Int) (m : Int → Int) : Prop := ∃ gp, yk_sky t (hs k) (us k) cl sc sr ch (cs k) (rs k) br wc wr m ∧ yk_sea ts gp gl m ∧ gp s = q
theorem ym_steerE (R : yl_R L K V nc tS tL sP lP kd fr hf to mc C mk mf mh mt) (sq : yw_sq t h u cl sc sr ch ts co ro br wc wr gl hs us cs rs) {k : Nat} {q : Int} (hm : yw_mk t cl sc sr ch ts s br wc wr gl hs us cs rs k q m) (s0 : 0 ≤ s) (s1 : s < 6) (i1 : 0 ≤ i) (i2 : i < 24) (hti : zb t i.toNat = true) {g S : Int → Int} :
    zh_ok (zf_M_steers s i 0 mc m mk g mh mt C S mf) fun o => yw_mk t cl sc sr ch ts s br wc wr gl hs us cs rs (k + 1) (yw_nx L tS cl sc sr (hs k) (us k) (cs k) (rs k) br gl q i) o.1 := by
  obtain ⟨gp, kk, z, rfl⟩ := hm
  obtain ⟨p1, p2⟩ := z.2 s s0 s1
  obtain ⟨g', S', e1⟩ := ym_steersFrom (g := g) (S := S) R kk z p1 p2 i1 i2 hti
  have hq := yw_nx_in (L := L) (tS := tS) (sq.2 k).2 p1 p2 i1 i2
  have z2 := yk_sea_up z s0 s1 hq.1 hq.2
  have k2 : yk_sky t (hs k) (us k) cl sc sr ch (cs k) (rs k) br wc wr (zv_up m (120 + s) (yw_nx L tS cl sc sr (hs k) (us k) (cs k) (rs k) br gl (gp s) i)) := yk_sky_fr kk fun j hj => zv_up_n (by omega)
  obtain ⟨h', u', co', ro', m', e2, e3, k3, e4⟩ := yk_pass k2
  have e5 := (sq.2 k).1
  rw [e2] at e5
  cases e5
  have z3 : yk_sea ts (zv_up gp s (yw_nx L tS cl sc sr (hs k) (us k) (cs k) (rs k) br gl (gp s) i)) gl m' := yk_sea_fr z2 fun j hj => e4 j (by omega) (by omega) (by omega)
  unfold zf_M_steers
  rw [if_pos rfl, zi_w_id (x := 120 + s) (by omega) (by omega), zl_ci (by omega) (by omega), z.1.2.2.2.1 s s0 s1, e1, zl_b]
  dsimp only
  show zh_ok ((zf_M_passes (zv_up m (120 + s) (yw_nx L tS cl sc sr (hs k) (us k) (cs k) (rs k) br gl (gp s) i))).bind _) _
  rw [e3, zl_b]
  exact zh_ret ⟨_, k3, z3, zv_up_s⟩
theorem yw_comesByE (R : yl_R L K V nc tS tL sP lP kd fr hf to mc C mk mf mh mt) (sq : yw_sq t h u cl sc sr ch ts co ro br wc wr gl hs us cs rs) {p0 : Int} (hm : yw_mk t cl sc sr ch ts s br wc wr gl hs us cs rs 0 p0 m) (s0 : 0 ≤ s) (s1 : s < 6) (i1 : 0 ≤ i) (i2 : i < 24) (hti : zb t i.toNat = true) {n : Int} (n0 : 0 ≤ n) (n1 : n ≤ 48) {g S : Int → Int} :
    zh_ok (zf_M_comesBy s i p n mc m mk g mh mt C S mf) fun o => (∃ k : Nat, (k : Int) ≤ n ∧ o.1 = k ∧ yw_pos L tS cl sc sr hs us cs rs br gl p0 i k = p ∧ ∀ l, l < k → yw_pos L tS cl sc sr hs us cs rs br gl p0 i l ≠ p) ∨ (o.1 = -1 ∧ ∀ l : Nat, (l : Int) ≤ n → yw_pos L tS cl sc sr hs us cs rs br gl p0 i l ≠ p) := by
  unfold zf_M_comesBy
  refine zh_sum (Q := fun o => match o with
    | .inl _ => ∀ l : Nat, (l : Int) ≤ n → yw_pos L tS cl sc sr hs us cs rs br gl p0 i l ≠ p
    | .inr o => ∃ k : Nat, (k : Int) ≤ n ∧ o.1 = k ∧ yw_pos L tS cl sc sr hs us cs rs br gl p0 i k = p ∧ ∀ l, l < k → yw_pos L tS cl sc sr hs us cs rs br gl p0 i l ≠ p) (zh_loop (F := fun f j (a : (Int → Int) × (Int → Int) × (Int → Int)) => zf_M_comesBy_l0 s i p n mc mk mh mt C mf f j a.1 a.2.1 a.2.2) (N := n + 1) (I := fun j a => ∃ k : Nat, j = k ∧ (j ≤ n → yw_mk t cl sc sr ch ts s br wc wr gl hs us cs rs k (yw_pos L tS cl sc sr hs us cs rs br gl p0 i k) a.1) ∧ ∀ l, l < k → yw_pos L tS cl sc sr hs us cs rs br gl p0 i l ≠ p) (fun f j a j0 j1 ha kk => ?_) 49 0 (m, g, S) zi_fu (by omega) (by decide) (by omega) (by decide) ⟨0, rfl, fun _ => hm, fun l hl => by omega⟩) (fun _ hq => zh_ret (.inr ⟨rfl, hq⟩)) fun _ hq => zh_ret (.inl hq)
  obtain ⟨a1, a2, a3⟩ := a
  obtain ⟨k, ek, hm2, hn⟩ := ha
  dsimp only at hm2
  show zh_ok (zf_M_comesBy_l0_b s i p n mc mk mh mt C mf (zf_M_comesBy_l0 s i p n mc mk mh mt C mf f) j a1 a2 a3) _
  unfold zf_M_comesBy_l0_b
  refine zh_ite (fun hlt => zh_ret fun l hl => hn l (by omega)) fun hle => ?_
  have hm3 := hm2 (by omega)
  rw [zi_w_id (x := 120 + s) (by omega) (by omega), zi_w_id (x := j + 1) (by omega) (by omega)]
  have hpos : a1 (120 + s) = yw_pos L tS cl sc sr hs us cs rs br gl p0 i k := by
    obtain ⟨gp2, -, z2, e⟩ := hm3
    rw [z2.1.2.2.2.1 s s0 s1, e]
  refine zh_cond (zi_ix_of (by omega) (by omega)) (zh_ite (fun e => zh_ret ⟨k, by omega, ek, by rw [← hpos]; exact e, hn⟩) fun e => ?_)
  have hn2 : ∀ l, l < k + 1 → yw_pos L tS cl sc sr hs us cs rs br gl p0 i l ≠ p := fun l hl => by
    by_cases e2 : l = k
    · subst e2; rw [← hpos]; exact e
    · exact hn l (by omega)
  refine zh_ite (fun hjn => zh_bind (ym_steerE R sq hm3 s0 s1 i1 i2 hti) fun r5 h5 => ?_) fun hjn => ?_
  · exact kk (_, _, _) (by omega) ⟨k + 1, by omega, fun _ => h5, hn2⟩
  · exact kk (_, _, _) (by omega) ⟨k + 1, by omega, fun h => by omega, hn2⟩
theorem yw_ml0 (R : yl_R L K V nc tS tL sP lP kd fr hf to mc C mk mf mh mt) (sq : yw_sq t h u cl sc sr ch ts co ro br wc wr gl hs us cs rs) {p0 : Int} {mA : Int → Int} (hmA : ∀ m2, (∀ j, 0 ≤ j → j < 422 → m2 j = mA j) → yw_mk t cl sc sr ch ts s br wc wr gl hs us cs rs 0 p0 m2) (b126 : mA 126 = t) (s0 : 0 ≤ s) (s1 : s < 6) {n : Int} (n0 : 1 ≤ n) (n1 : n ≤ 48) (tin : 0 ≤ t ∧ t ≤ 2147483647) (hne : p0 ≠ p) {m1 g S : Int → Int} :
    zh_ok (zf_M_fastest_l0 s n p mc mA mk mh mt C mf zi_fu 1000000000 (-2) 0 m1 g S) fun o => (∃ (k : Nat) (i : Int), yw_hit t (fun i => yw_pos L tS cl sc sr hs us cs rs br gl p0 i) p n.toNat k i ∧ o.1 = k ∧ o.2.1 = i) ∨ (o.1 = 1000000000 ∧ yw_noh t (fun i => yw_pos L tS cl sc sr hs us cs rs br gl p0 i) p n.toNat) := by
  refine zh_loop (F := fun f i (a : Int × Int × (Int → Int) × (Int → Int) × (Int → Int)) => zf_M_fastest_l0 s n p mc mA mk mh mt C mf f a.1 a.2.1 i a.2.2.1 a.2.2.2.1 a.2.2.2.2) (N := 24) (I := fun j a => (∃ (k : Nat) (i : Int), ((1 ≤ k ∧ (k : Int) ≤ n) ∧ (0 ≤ i ∧ i < j ∧ zb t i.toNat = true ∧ yw_pos L tS cl sc sr hs us cs rs br gl p0 i k = p) ∧ (∀ j2, 0 ≤ j2 → j2 < i → zb t j2.toNat = true → yw_pos L tS cl sc sr hs us cs rs br gl p0 j2 k ≠ p) ∧ ∀ l j2, 1 ≤ l → l < k → 0 ≤ j2 → j2 < j → zb t j2.toNat = true → yw_pos L tS cl sc sr hs us cs rs br gl p0 j2 l ≠ p) ∧ a.1 = k ∧ a.2.1 = i) ∨ (a.1 = 1000000000 ∧ ∀ (l : Nat) j2, (l : Int) ≤ n → 0 ≤ j2 → j2 < j → zb t j2.toNat = true → yw_pos L tS cl sc sr hs us cs rs br gl p0 j2 l ≠ p)) (fun f j a j0 j1 ha kk => ?_) 24 0 (1000000000, -2, m1, g, S) zi_fu (by decide) (by decide) (by decide) (by decide) (.inr ⟨rfl, fun l j2 _ h1 h2 => by omega⟩)
  obtain ⟨a1, a2, a3, a4, a5⟩ := a
  dsimp only at ha
  show zh_ok (zf_M_fastest_l0_b s n p mc mA mk mh mt C mf (zf_M_fastest_l0 s n p mc mA mk mh mt C mf f) a1 a2 j a3 a4 a5) _
  unfold zf_M_fastest_l0_b
  refine zh_ite (fun hj => ?_) fun hj => zh_ret ?_
  · obtain ⟨mB, e2, hB⟩ := ze_again (g0 := mA) (g := a3)
    have hmB := hmA mB hB
    have c126 : mB 126 = t := by rw [hB 126 (by decide) (by decide), b126]
    rw [e2, zl_b, ze_M_isTold (by rw [c126]; exact tin.1) (by rw [c126]; exact tin.2), c126, zl_b, zi_w_id (x := j + 1) (by omega) (by omega)]
    have k2 : ∀ (b1 b2 : Int) (b3 b4 b5 : Int → Int), ((∃ (k : Nat) (i : Int), ((1 ≤ k ∧ (k : Int) ≤ n) ∧ (0 ≤ i ∧ i < j + 1 ∧ zb t i.toNat = true ∧ yw_pos L tS cl sc sr hs us cs rs br gl p0 i k = p) ∧ (∀ j2, 0 ≤ j2 → j2 < i → zb t j2.toNat = true → yw_pos L tS cl sc sr hs us cs rs br gl p0 j2 k ≠ p) ∧ ∀ l j2, 1 ≤ l → l < k → 0 ≤ j2 → j2 < j + 1 → zb t j2.toNat = true → yw_pos L tS cl sc sr hs us cs rs br gl p0 j2 l ≠ p) ∧ b1 = k ∧ b2 = i) ∨ (b1 = 1000000000 ∧ ∀ (l : Nat) j2, (l : Int) ≤ n → 0 ≤ j2 → j2 < j + 1 → zb t j2.toNat = true → yw_pos L tS cl sc sr hs us cs rs br gl p0 j2 l ≠ p)) → zh_ok (zf_M_fastest_l0 s n p mc mA mk mh mt C mf f b1 b2 (j + 1) b3 b4 b5) _ := fun b1 b2 b3 b4 b5 hh => kk (b1, b2, b3, b4, b5) hj hh
    refine zh_ite (fun q6 => k2 _ _ _ _ _ ?_) fun q6 => ?_
    · have hno : ¬ zb t j.toNat = true := fun ht => by
        have : zs_has 24 t j = 1 := by
          unfold zs_has
          rw [if_pos ⟨j0, hj, by rw [zb_tb2 tin.1 tin.2]; exact ht⟩]
        rw [this] at q6
        exact absurd q6 (by decide)
      rcases ha with ⟨k, i, ⟨x1, ⟨x2, x3, x4, x5⟩, x6, x7⟩, x8, x9⟩ | ⟨x1, x2⟩
      · refine .inl ⟨k, i, ⟨x1, ⟨x2, by omega, x4, x5⟩, x6, fun l j2 l1 l2 y0 y1 ht => x7 l j2 l1 l2 y0 ?_ ht⟩, x8, x9⟩
        by_cases e : j2 = j
        · subst e; exact absurd ht hno
        · omega
      · refine .inr ⟨x1, fun l j2 l1 y0 y1 ht => x2 l j2 l1 y0 ?_ ht⟩
        by_cases e : j2 = j
        · subst e; exact absurd ht hno
        · omega
    · have hti := yw_hs tin.1 tin.2 q6
      refine zh_bind (yw_comesByE R sq hmB s0 s1 j0 hj hti (by omega) (by omega)) fun r18 h18 => ?_
      rcases h18 with ⟨k, k1, o1, pk, pl⟩ | ⟨o1, pl⟩
      · have kpos : 1 ≤ k := by
          rcases Nat.eq_zero_or_pos k with e | e
          · subst e; exact absurd pk hne
          · exact e
        rw [o1, if_neg (by omega)]
        rcases ha with ⟨kb, ib, ⟨x1, ⟨x2, x3, x4, x5⟩, x6, x7⟩, rfl, rfl⟩ | ⟨rfl, x2⟩
        · refine zh_ite (fun c1 => k2 _ _ _ _ _ (.inl ⟨kb, a2, ⟨x1, ⟨x2, by omega, x4, x5⟩, x6, fun l j2 l1 l2 y0 y1 ht => ?_⟩, rfl, rfl⟩)) fun c1 => zh_ite (fun c2 => zh_ite (fun c3 => by omega) fun _ => k2 _ _ _ _ _ (.inl ⟨kb, a2, ⟨x1, ⟨x2, by omega, x4, x5⟩, x6, fun l j2 l1 l2 y0 y1 ht => ?_⟩, rfl, rfl⟩)) fun c2 => k2 _ _ _ _ _ (.inl ⟨k, j, ⟨⟨kpos, k1⟩, ⟨j0, by omega, hti, pk⟩, fun j2 y0 y1 ht => x7 k j2 kpos (by omega) y0 y1 ht, fun l j2 l1 l2 y0 y1 ht => ?_⟩, rfl, rfl⟩)
          · by_cases e : j2 = j
            · subst e; exact pl l (by omega)
            · exact x7 l j2 l1 l2 y0 (by omega) ht
          · by_cases e : j2 = j
            · subst e; exact pl l (by omega)
            · exact x7 l j2 l1 l2 y0 (by omega) ht
          · by_cases e : j2 = j
            · subst e; exact pl l (by omega)
            · exact x7 l j2 l1 (by omega) y0 (by omega) ht
        · refine zh_ite (fun c1 => by omega) fun c1 => zh_ite (fun c2 => by omega) fun c2 => k2 _ _ _ _ _ (.inl ⟨k, j, ⟨⟨kpos, k1⟩, ⟨j0, by omega, hti, pk⟩, fun j2 y0 y1 ht => x2 k j2 k1 y0 y1 ht, fun l j2 l1 l2 y0 y1 ht => ?_⟩, rfl, rfl⟩)
          by_cases e : j2 = j
          · subst e; exact pl l (by omega)
          · exact x2 l j2 (by omega) y0 (by omega) ht
      · rw [o1, if_pos rfl]
        rcases ha with ⟨kb, ib, ⟨x1, ⟨x2, x3, x4, x5⟩, x6, x7⟩, rfl, rfl⟩ | ⟨rfl, x2⟩
        · refine k2 _ _ _ _ _ (.inl ⟨kb, a2, ⟨x1, ⟨x2, by omega, x4, x5⟩, x6, fun l j2 l1 l2 y0 y1 ht => ?_⟩, rfl, rfl⟩)
          by_cases e : j2 = j
          · subst e; exact pl l (by omega)
          · exact x7 l j2 l1 l2 y0 (by omega) ht
        · refine k2 _ _ _ _ _ (.inr ⟨rfl, fun l j2 l1 y0 y1 ht => ?_⟩)
          by_cases e : j2 = j
          · subst e; exact pl l l1
          · exact x2 l j2 l1 y0 (by omega) ht
  · rcases ha with ⟨k, i, ⟨x1, ⟨x2, x3, x4, x5⟩, x6, x7⟩, x8, x9⟩ | ⟨x1, x2⟩
    · exact .inl ⟨k, i, ⟨⟨x1.1, by omega⟩, ⟨x2, by omega, x4, x5⟩, x6, fun l j2 l1 l2 y0 y1 ht => x7 l j2 l1 l2 y0 (by omega) ht⟩, x8, x9⟩
    · exact .inr ⟨x1, fun l j2 l1 l2 y0 y1 ht => x2 l j2 (by omega) y0 (by omega) ht⟩
theorem yw_hit_1 {P : Int → Nat → Int} {pl : Int} {n k k2 : Nat} {i2 : Int} (a : yw_hit t P pl n k i) (b : yw_hit t P pl n k2 i2) : k = k2 ∧ i = i2 := by
  obtain ⟨⟨a1, a2⟩, ⟨a3, a4, a5, a6⟩, a7, a8⟩ := a
  obtain ⟨⟨b1, b2⟩, ⟨b3, b4, b5, b6⟩, b7, b8⟩ := b
  have e : k = k2 := by
    rcases Nat.lt_trichotomy k k2 with h | h | h
    · exact absurd a6 (b8 k i a1 h a3 a4 a5)
    · exact h
    · exact absurd b6 (a8 k2 i2 b1 h b3 b4 b5)
  subst e
  refine ⟨rfl, ?_⟩
  rcases Int.lt_trichotomy i i2 with h | h | h
  · exact absurd a6 (b7 i a3 h a5)
  · exact h
  · exact absurd b6 (a7 i2 b3 h b5)
theorem yw_hit_no {P : Int → Nat → Int} {pl : Int} {n k : Nat} (a : yw_hit t P pl n k i) (b : yw_noh t P pl n) : False := b k i a.1.1 a.1.2 a.2.1.1 a.2.1.2.1 a.2.1.2.2.1 a.2.1.2.2.2
end YLM
end
section
/-! fastest: the same answer. -/
section YLZ
theorem ze_lowE {x : Int} (hx : z24 x) (h0 : x ≠ 0) : ∃ r : Nat, r < 24 ∧ zb x r = true ∧ (∀ j, j < r → zb x j = false) ∧ zf_X_lowestOf x = some (r : Int) := by
  have hex : ∃ j, j < 24 ∧ zb x j = true := by
    by_cases q : ∃ j, j < 24 ∧ zb x j = true
    · exact q
    · refine absurd ((z24_z hx).mpr fun j hj => ?_) h0
      cases c : zb x j
      · rfl
      · exact absurd ⟨j, hj, c⟩ q
  obtain ⟨r, r1, r2, r3⟩ := yn_low 24 hex
  have hand : zi_and x (zi_w (-x)) = zi_shl 1 r := by
    refine z24_ext (z24_and hx) (z24_shl (by omega) (by omega)) fun j hj => ?_
    rw [zb_and, zb_neg hx.1 (by have := hx.2; omega) (by omega), zb_shl (by omega) (by omega), Int.toNat_natCast]
    by_cases e : j = r
    · subst e
      rw [r2, decide_eq_true (rfl : j = j)]
      have : ¬ ∃ i, i < j ∧ zb x i = true := fun ⟨i, a, b⟩ => by rw [r3 i a] at b; cases b
      rw [decide_eq_false this]; rfl
    · rw [decide_eq_false e]
      by_cases c : j < r
      · rw [r3 j c, Bool.false_and]
      · rw [decide_eq_true (⟨r, by omega, r2⟩ : ∃ i, i < j ∧ zb x i = true)]
        cases zb x j <;> rfl
  refine ⟨r, r1, r2, r3, ?_⟩
  unfold zf_X_lowestOf
  have hd : ∀ k : Nat, k < 24 → zf_Integer_bitCount (zi_w (zi_shl 1 k - 1)) = some (k : Int) := by
    have hd2 : ∀ k : Nat, k < 24 → (0 ≤ zi_w (zi_shl 1 k - 1) ∧ zi_w (zi_shl 1 k - 1) < 16777216) ∧ zs_sum (zi_w (zi_shl 1 k - 1)) 24 = k := by decide +kernel
    intro k hk
    obtain ⟨⟨a, b⟩, c⟩ := hd2 k hk
    rw [ze_bitCount a b, c]
  rw [hand, hd r r1, zl_b]
variable {L : zLW} {K V kd fr hf to C mk mf mh mt : Int → Int} {nc tS tL sP lP mc : Int} {t h u cl sc sr ch ts p i s : Int} {co ro br wc wr m gp gl : Int → Int} {hs us : Nat → Int} {cs rs : Nat → Int → Int}
/-- the answer, by the places of the hours -/
def yw_fa (t w : Int) (P : Int → Nat → Int) (p0 pl : Int) (n : Nat) (r : Int) : Prop :=
  (p0 = pl ∧ ∃ i : Nat, (i < 24 ∧ zb t i = true ∧ ∀ j, j < i → zb t j = false) ∧ r = if w = 0 then 0 else (i : Int)) ∨
  (p0 ≠ pl ∧ ((∃ (k : Nat) (i : Int), yw_hit t P pl n k i ∧ r = if w = 0 then (k : Int) else i) ∨ (yw_noh t P pl n ∧ r = -2)))
theorem yw_fa_1 {w : Int} {P : Int → Nat → Int} {p0 pl : Int} {n : Nat} {r r2 : Int} (a : yw_fa t w P p0 pl n r) (b : yw_fa t w P p0 pl n r2) : r = r2 := by
  rcases a with ⟨e, i, ⟨i1, i2, i3⟩, rfl⟩ | ⟨e, a⟩
  · rcases b with ⟨-, j, ⟨j1, j2, j3⟩, rfl⟩ | ⟨e2, -⟩
    · have : i = j := by
        rcases Nat.lt_trichotomy i j with h | h | h
        · rw [j3 i h] at i2; cases i2
        · exact h
        · rw [i3 j h] at j2; cases j2
      rw [this]
    · exact absurd e e2
  · rcases b with ⟨e2, -⟩ | ⟨-, b⟩
    · exact absurd e2 e
    · rcases a with ⟨k, i, a1, rfl⟩ | ⟨a1, rfl⟩
      · rcases b with ⟨k2, i2, b1, rfl⟩ | ⟨b1, rfl⟩
        · obtain ⟨rfl, rfl⟩ := yw_hit_1 a1 b1; rfl
        · exact absurd b1 (yw_hit_no a1)
      · rcases b with ⟨k2, i2, b1, rfl⟩ | ⟨b1, rfl⟩
        · exact absurd a1 (yw_hit_no b1)
        · rfl
def yw_fbad (ts t s x y n w : Int) : Prop := zs_has 6 ts s = 0 ∨ zs_pl x y = 0 ∨ t = 0 ∨ zs_in n 1 48 = 0 ∨ zs_in w 0 1 = 0
theorem yw_askE {s x y : Int} (h1 : 0 ≤ ts) (h2 : ts ≤ 2147483647) : zh_ok (zf_X_canAskVoyage s x y ts t) fun r => (r = 0 → zs_has 6 ts s = 0 ∨ zs_pl x y = 0 ∨ t = 0) ∧ (¬ r = 0 → ¬ zs_has 6 ts s = 0 ∧ ¬ zs_pl x y = 0 ∧ ¬ t = 0) := by
  unfold zf_X_canAskVoyage
  rw [ze_Sea_hasShip h1 h2, zl_b]
  refine zh_ite (fun q => zh_ret ⟨fun _ => .inl q, fun q2 => absurd rfl q2⟩) fun q1 => ?_
  rw [ze_X_isPlace, zl_b]
  exact zh_ite (fun q => zh_ret ⟨fun _ => .inr (.inl q), fun q2 => absurd rfl q2⟩) fun q2 => zh_ite (fun q => zh_ret ⟨fun _ => .inr (.inr q), fun q2 => absurd rfl q2⟩) fun q3 => zh_ret ⟨fun q => absurd q (by decide), fun _ => ⟨q1, q2, q3⟩⟩
theorem yw_fastXE (R : yl_R L K V nc tS tL sP lP kd fr hf to mc C mk mf mh mt) (k : yk_sky t h u cl sc sr ch co ro br wc wr m) (z : yk_sea ts gp gl m) {s x y n w : Int} {f2 f4 f6 f8 f10 f12 f14 f18 f19 f20 f22 f24 f26 f27 : Int} {g1 g3 g5 g7 g9 g10 g12 g13 g18 : Int → Int} (sq : yw_sq t h u cl sc sr ch ts (zv_cpy co g1 24) (zv_cpy ro g3 24) (zv_cpy br g5 24) (zv_cpy wc g7 24) (zv_cpy wr g9 24) gl hs us cs rs) :
    zh_ok (zf_X_fastest s x y n w ts t f2 h f4 u f6 cl f8 sc f10 sr f12 ch f14 f18 f19 f20 tS f22 nc f24 sP f26 f27 co g1 ro g3 br g5 wc g7 wr g9 g10 gp g12 g13 kd hf to K g18 V gl) fun o => (yw_fbad ts t s x y n w ∧ o.1 = -1) ∨ (¬ yw_fbad ts t s x y n w ∧ yw_fa t w (fun i => yw_pos L tS cl sc sr hs us cs rs (zv_cpy br g5 24) gl (gp s) i) (gp s) (24 * y + x) n.toNat o.1) := by
  obtain ⟨⟨ht, -⟩, -⟩ := id k
  obtain ⟨⟨t1, t2, -⟩, hb⟩ := id z
  unfold zf_X_fastest
  refine zh_bind (yw_askE t1 (by omega)) fun r1 h1 => zh_ite (fun q1 => zh_ret (.inl ⟨?_, rfl⟩)) fun q1 => ?_
  · rcases h1.1 q1 with a | a | a
    · exact .inl a
    · exact .inr (.inl a)
    · exact .inr (.inr (.inl a))
  obtain ⟨b1, b2, b3⟩ := h1.2 q1
  obtain ⟨s0, s1, -⟩ := zs_has_ne b1
  obtain ⟨x0, x1, y0, y1⟩ := zs_pl_ne b2
  rw [ze_X_isWithin, zl_b]
  refine zh_ite (fun q => zh_ret (.inl ⟨.inr (.inr (.inr (.inl q))), rfl⟩)) fun q2 => ?_
  rw [ze_X_isWithin, zl_b]
  refine zh_ite (fun q => zh_ret (.inl ⟨.inr (.inr (.inr (.inr q))), rfl⟩)) fun q3 => ?_
  have hgood : ¬ yw_fbad ts t s x y n w := fun hb => by
    rcases hb with a | a | a | a | a
    · exact b1 a
    · exact b2 a
    · exact b3 a
    · exact q2 a
    · exact q3 a
  obtain ⟨n0, n1⟩ := zs_in_ne q2
  unfold zf_Sky_copyFrom
  rw [zl_b]
  dsimp only
  obtain ⟨gA, e0, h0⟩ := ze_open (f := f18) (g := g10)
  rw [e0, zl_b, ze_X_placeOf x0 x1 y0 y1, zl_b]
  have hp := hb s s0 s1
  refine zh_cond (zi_ix_of s0 s1) (zh_bind (Q := fun o => (o.1 = 1 ∧ yw_fa t w (fun i => yw_pos L tS cl sc sr hs us cs rs (zv_cpy br g5 24) gl (gp s) i) (gp s) (24 * y + x) n.toNat (if w = 0 then o.2.2.2.2.2.2.2.2.1 else o.2.2.2.2.2.2.2.2.2.1)) ∨ (o.1 = 0 ∧ yw_fa t w (fun i => yw_pos L tS cl sc sr hs us cs rs (zv_cpy br g5 24) gl (gp s) i) (gp s) (24 * y + x) n.toNat (-2))) ?_ fun r11 h11 => zh_ite (fun c => ?_) fun c => ?_)
  · by_cases hne : gp s = 24 * y + x
    · obtain ⟨r, r1, r2, r3, e9⟩ := ze_lowE ht b3
      unfold zf_Pilot_findFastest
      rw [if_pos hne, e9, zl_b]
      refine zh_ret (.inl ⟨rfl, .inl ⟨hne, r, ⟨r1, r2, r3⟩, ?_⟩⟩)
      by_cases cw : w = 0
      · rw [if_pos cw]; (try rfl)
      · rw [if_neg cw]; (try rfl)
    · refine zh_mono (yw_findFE R sq yv_ca0 hp.1 hp.2 (by omega) n1 hne) fun o ho => ?_
      rcases ho with ⟨o1, kk, i, o2, o3, o4⟩ | ⟨o1, o2⟩
      · refine .inl ⟨o1, .inr ⟨hne, .inl ⟨kk, i, o2, ?_⟩⟩⟩
        by_cases cw : w = 0
        · rw [if_pos cw, if_pos cw, o3]
        · rw [if_neg cw, if_neg cw, o4]
      · exact .inr ⟨o1, .inr ⟨hne, .inr ⟨o2, rfl⟩⟩⟩
  · rcases h11 with ⟨a, -⟩ | ⟨-, a⟩
    · omega
    · exact zh_ret (.inr ⟨hgood, a⟩)
  · rcases h11 with ⟨-, a⟩ | ⟨a, -⟩
    · refine zh_ite (fun cw => zh_ret (.inr ⟨hgood, ?_⟩)) fun cw => zh_ret (.inr ⟨hgood, ?_⟩)
      · rw [if_pos cw] at a; exact a
      · rw [if_neg cw] at a; exact a
    · exact absurd a c
/-- the ship is there already -/
theorem yw_ml1 (R : yl_R L K V nc tS tL sP lP kd fr hf to mc C mk mf mh mt) (sq : yw_sq t h u cl sc sr ch ts co ro br wc wr gl hs us cs rs) {p0 : Int} {mA : Int → Int} (hmA : ∀ m2, (∀ j, 0 ≤ j → j < 422 → m2 j = mA j) → yw_mk t cl sc sr ch ts s br wc wr gl hs us cs rs 0 p0 m2) (b126 : mA 126 = t) (s0 : 0 ≤ s) (s1 : s < 6) {n : Int} (n0 : 1 ≤ n) (n1 : n ≤ 48) (tin : 0 ≤ t ∧ t ≤ 2147483647) {m1 g S : Int → Int} :
    zh_ok (zf_M_fastest_l0 s n p0 mc mA mk mh mt C mf zi_fu 0 (-2) 0 m1 g S) fun o => o.1 = 0 ∧ ((o.2.1 = -2 ∧ ∀ i : Int, 0 ≤ i → i < 24 → ¬ zb t i.toNat = true) ∨ ∃ i : Int, (0 ≤ i ∧ i < 24 ∧ zb t i.toNat = true) ∧ (∀ j : Int, 0 ≤ j → j < i → ¬ zb t j.toNat = true) ∧ o.2.1 = i) := by
  refine zh_loop (F := fun f i (a : Int × Int × (Int → Int) × (Int → Int) × (Int → Int)) => zf_M_fastest_l0 s n p0 mc mA mk mh mt C mf f a.1 a.2.1 i a.2.2.1 a.2.2.2.1 a.2.2.2.2) (N := 24) (I := fun j a => a.1 = 0 ∧ ((a.2.1 = -2 ∧ ∀ i : Int, 0 ≤ i → i < j → ¬ zb t i.toNat = true) ∨ ∃ i : Int, (0 ≤ i ∧ i < j ∧ zb t i.toNat = true) ∧ (∀ j : Int, 0 ≤ j → j < i → ¬ zb t j.toNat = true) ∧ a.2.1 = i)) (fun f j a j0 j1 ha kk => ?_) 24 0 (0, -2, m1, g, S) zi_fu (by decide) (by decide) (by decide) (by decide) ⟨rfl, .inl ⟨rfl, fun i i0 i1 => by omega⟩⟩
  obtain ⟨a1, a2, a3, a4, a5⟩ := a
  obtain ⟨e1, ha⟩ := ha
  dsimp only at e1 ha
  subst e1
  show zh_ok (zf_M_fastest_l0_b s n p0 mc mA mk mh mt C mf (zf_M_fastest_l0 s n p0 mc mA mk mh mt C mf f) 0 a2 j a3 a4 a5) _
  unfold zf_M_fastest_l0_b
  refine zh_ite (fun hj => ?_) fun hj => zh_ret ⟨rfl, ?_⟩
  · obtain ⟨mB, e2, hB⟩ := ze_again (g0 := mA) (g := a3)
    have hmB := hmA mB hB
    have c126 : mB 126 = t := by rw [hB 126 (by decide) (by decide), b126]
    rw [e2, zl_b, ze_M_isTold (by rw [c126]; exact tin.1) (by rw [c126]; exact tin.2), c126, zl_b, zi_w_id (x := j + 1) (by omega) (by omega)]
    have k2 : ∀ (b2 : Int) (b3 b4 b5 : Int → Int), ((b2 = -2 ∧ ∀ i : Int, 0 ≤ i → i < j + 1 → ¬ zb t i.toNat = true) ∨ ∃ i : Int, (0 ≤ i ∧ i < j + 1 ∧ zb t i.toNat = true) ∧ (∀ j : Int, 0 ≤ j → j < i → ¬ zb t j.toNat = true) ∧ b2 = i) → zh_ok (zf_M_fastest_l0 s n p0 mc mA mk mh mt C mf f 0 b2 (j + 1) b3 b4 b5) _ := fun b2 b3 b4 b5 hh => kk (0, b2, b3, b4, b5) hj ⟨rfl, hh⟩
    refine zh_ite (fun q6 => k2 _ _ _ _ ?_) fun q6 => ?_
    · have hno : ¬ zb t j.toNat = true := fun ht => by
        have : zs_has 24 t j = 1 := by
          unfold zs_has
          rw [if_pos ⟨j0, hj, by rw [zb_tb2 tin.1 tin.2]; exact ht⟩]
        rw [this] at q6
        exact absurd q6 (by decide)
      rcases ha with ⟨x1, x2⟩ | ⟨i, ⟨x1, x2, x3⟩, x4, x5⟩
      · refine .inl ⟨x1, fun i i0 i1 => ?_⟩
        by_cases e : i = j
        · subst e; exact hno
        · exact x2 i i0 (by omega)
      · exact .inr ⟨i, ⟨x1, by omega, x3⟩, x4, x5⟩
    · have hti := yw_hs tin.1 tin.2 q6
      refine zh_bind (yw_comesByE R sq hmB s0 s1 j0 hj hti (by omega) (by omega)) fun r18 h18 => ?_
      have o1 : r18.1 = 0 := by
        rcases h18 with ⟨k, -, o1, -, pl⟩ | ⟨-, pl⟩
        · rcases Nat.eq_zero_or_pos k with e | e
          · rw [o1, e]; rfl
          · exact absurd rfl (pl 0 e)
        · exact absurd rfl (pl 0 (by omega))
      rw [o1, if_neg (by decide), if_neg (by decide), if_pos rfl]
      rcases ha with ⟨rfl, x2⟩ | ⟨i, ⟨x1, x2, x3⟩, x4, rfl⟩
      · rw [if_pos rfl]
        exact k2 _ _ _ _ (.inr ⟨j, ⟨j0, by omega, hti⟩, fun l l0 l1 => x2 l l0 l1, rfl⟩)
      · rw [if_neg (by omega)]
        exact k2 _ _ _ _ (.inr ⟨a2, ⟨x1, by omega, x3⟩, x4, rfl⟩)
  · rcases ha with ⟨x1, x2⟩ | ⟨i, ⟨x1, x2, x3⟩, x4, x5⟩
    · exact .inl ⟨x1, fun i i0 i1 => x2 i i0 (by omega)⟩
    · exact .inr ⟨i, ⟨x1, by omega, x3⟩, x4, x5⟩
theorem yw_fastME (R : yl_R L K V nc tS tL sP lP kd fr hf to mc C mk mf mh mt) (k : yk_sky t h u cl sc sr ch co ro br wc wr m) (z : yk_sea ts gp gl m) (sq : yw_sq t h u cl sc sr ch ts co ro br wc wr gl hs us cs rs) {x y n w : Int} {aA g S : Int → Int} :
    zh_ok (zf_M_fastest s x y n w mc m aA mk g mh mt C S mf) fun o => ((yw_fbad ts t s x y n w ∧ o.1 = -1) ∨ (¬ yw_fbad ts t s x y n w ∧ yw_fa t w (fun i => yw_pos L tS cl sc sr hs us cs rs br gl (gp s) i) (gp s) (24 * y + x) n.toNat o.1)) ∧ ∀ j, 0 ≤ j → j < 422 → o.2.1 j = m j := by
  obtain ⟨⟨ht, k126⟩, -⟩ := id k
  obtain ⟨⟨t1, t2, e127, hsp, -⟩, hb⟩ := id z
  have tin : 0 ≤ t ∧ t ≤ 2147483647 := ⟨ht.1, by have := ht.2; omega⟩
  unfold zf_M_fastest
  rw [ze_M_isShip (by omega) (by omega), zl_b, e127]
  refine zh_ite (fun q => zh_ret ⟨.inl ⟨.inl q, rfl⟩, fun _ _ _ => rfl⟩) fun b1 => ?_
  rw [ze_M_isPlace, zl_b]
  refine zh_ite (fun q => zh_ret ⟨.inl ⟨.inr (.inl q), rfl⟩, fun _ _ _ => rfl⟩) fun b2 => ?_
  rw [ze_M_in, zl_b]
  refine zh_ite (fun q => zh_ret ⟨.inl ⟨.inr (.inr (.inr (.inl q))), rfl⟩, fun _ _ _ => rfl⟩) fun q2 => ?_
  rw [ze_M_in, zl_b]
  refine zh_ite (fun q => zh_ret ⟨.inl ⟨.inr (.inr (.inr (.inr q))), rfl⟩, fun _ _ _ => rfl⟩) fun q3 => ?_
  rw [k126]
  refine zh_ite (fun q => zh_ret ⟨.inl ⟨.inr (.inr (.inl q)), rfl⟩, fun _ _ _ => rfl⟩) fun b3 => ?_
  have hgood : ¬ yw_fbad ts t s x y n w := fun hb => by
    rcases hb with a | a | a | a | a
    · exact b1 a
    · exact b2 a
    · exact b3 a
    · exact q2 a
    · exact q3 a
  obtain ⟨s0, s1, -⟩ := zs_has_ne b1
  obtain ⟨x0, x1, y0, y1⟩ := zs_pl_ne b2
  obtain ⟨n0, n1⟩ := zs_in_ne q2
  obtain ⟨mA, e1, hA⟩ := ze_begins (g0 := m) (g := aA)
  rw [e1, zl_b, zl_b, zi_w_id (x := 120 + s) (by omega) (by omega), zi_w_id (x := 24 * y) (by omega) (by omega), zi_w_id (x := 24 * y + x) (by omega) (by omega)]
  have hmA : ∀ m2, (∀ j, 0 ≤ j → j < 422 → m2 j = mA j) → yw_mk t cl sc sr ch ts s br wc wr gl hs us cs rs 0 (gp s) m2 := fun m2 e => by
    obtain ⟨⟨rfl, rfl, rfl, rfl⟩, -⟩ := sq
    have e2 : ∀ j, 0 ≤ j → j < 422 → m2 j = m j := fun j j0 j1 => (e j j0 j1).trans (hA j j0 j1)
    exact ⟨gp, yk_sky_cg k (fun _ _ _ => rfl) (fun _ _ _ => rfl) (fun _ _ _ => rfl) (fun _ _ _ => rfl) (fun _ _ _ => rfl) e2, yk_sea_cg z (fun _ _ _ => rfl) (fun _ _ _ => rfl) e2, rfl⟩
  have b126 : mA 126 = t := by rw [hA 126 (by decide) (by decide), k126]
  have fin : ∀ m2, ∃ m3, zf_M_again mA m2 = some m3 ∧ ∀ j, 0 ≤ j → j < 422 → m3 j = m j := fun m2 => by
    obtain ⟨m3, e3, h3⟩ := ze_again (g0 := mA) (g := m2)
    exact ⟨m3, e3, fun j j0 j1 => by rw [h3 j j0 j1, hA j j0 j1]⟩
  refine zh_cond (zi_ix_of (by omega) (by omega)) ?_
  rw [hsp s s0 s1]
  refine zh_ite (fun he => ?_) fun hne => ?_
  · rw [← he]
    refine zh_bind (yw_ml1 R sq hmA b126 s0 s1 n0 n1 tin) fun q28 h28 => ?_
    obtain ⟨m3, e3, h3⟩ := fin q28.2.2.1
    obtain ⟨o1, ho⟩ := h28
    have ho : ∃ i : Int, (0 ≤ i ∧ i < 24 ∧ zb t i.toNat = true) ∧ (∀ j : Int, 0 ≤ j → j < i → ¬ zb t j.toNat = true) ∧ q28.2.1 = i := by
      rcases ho with ⟨-, hno⟩ | ho
      · exact absurd ((z24_z ht).mpr fun j hj => by
          cases c : zb t j
          · rfl
          · exact absurd c (hno (j : Int) (by omega) (by omega))) b3
      · exact ho
    obtain ⟨i, ⟨i0, i1, hti⟩, hlow, o2⟩ := ho
    have hfa : ∀ r, r = (if w = 0 then 0 else i) → yw_fa t w (fun i => yw_pos L tS cl sc sr hs us cs rs br gl (gp s) i) (gp s) (gp s) n.toNat r := fun r hr => .inl ⟨rfl, i.toNat, ⟨by omega, hti, fun j hj => by
      cases c : zb t j
      · rfl
      · exact absurd c (hlow (j : Int) (by omega) (by omega))⟩, by rw [hr, Int.toNat_of_nonneg i0]⟩
    rw [e3, zl_b, o1, if_neg (by decide)]
    exact zh_ite (fun cw => zh_ret ⟨.inr ⟨hgood, hfa _ (by rw [if_pos cw])⟩, h3⟩) fun cw => zh_ret ⟨.inr ⟨hgood, hfa _ (by rw [if_neg cw]; exact o2)⟩, h3⟩
  · refine zh_bind (yw_ml0 R sq hmA b126 s0 s1 n0 n1 tin hne) fun q28 h28 => ?_
    obtain ⟨m3, e3, h3⟩ := fin q28.2.2.1
    rw [e3, zl_b]
    rcases h28 with ⟨kk, i, o2, o3, o4⟩ | ⟨o1, o2⟩
    · have : kk ≤ n.toNat := o2.1.2
      rw [o3, if_neg (by omega)]
      exact zh_ite (fun cw => zh_ret ⟨.inr ⟨hgood, .inr ⟨hne, .inl ⟨kk, i, o2, by rw [if_pos cw]⟩⟩⟩, h3⟩) fun cw => zh_ret ⟨.inr ⟨hgood, .inr ⟨hne, .inl ⟨kk, i, o2, by rw [if_neg cw]; exact o4⟩⟩⟩, h3⟩
    · rw [o1, if_pos rfl]
      exact zh_ret ⟨.inr ⟨hgood, .inr ⟨hne, .inr ⟨o2, rfl⟩⟩⟩, h3⟩
theorem yo_fastest (R : yl_R L K V nc tS tL sP lP kd fr hf to mc C mk mf mh mt) (k : yk_sky t h u cl sc sr ch co ro br wc wr m) (z : yk_sea ts gp gl m) {s x y n w : Int} {f2 f4 f6 f8 f10 f12 f14 f18 f19 f20 f22 f24 f26 f27 : Int} {g1 g3 g5 g7 g9 g10 g12 g13 g18 aA g S : Int → Int} :
    ∃ o1 o2, zf_X_fastest s x y n w ts t f2 h f4 u f6 cl f8 sc f10 sr f12 ch f14 f18 f19 f20 tS f22 nc f24 sP f26 f27 co g1 ro g3 br g5 wc g7 wr g9 g10 gp g12 g13 kd hf to K g18 V gl = some o1 ∧ zf_M_fastest s x y n w mc m aA mk g mh mt C S mf = some o2 ∧ o1.1 = o2.1 ∧ ∀ j, 0 ≤ j → j < 422 → o2.2.1 j = m j := by
  have k2 : yk_sky t h u cl sc sr ch (zv_cpy co g1 24) (zv_cpy ro g3 24) (zv_cpy br g5 24) (zv_cpy wc g7 24) (zv_cpy wr g9 24) m := yk_sky_cg k (fun j j1 j2 => zv_cpy_in j2) (fun j j1 j2 => zv_cpy_in j2) (fun j j1 j2 => zv_cpy_in j2) (fun j j1 j2 => zv_cpy_in j2) (fun j j1 j2 => zv_cpy_in j2) (fun _ _ _ => rfl)
  obtain ⟨hs, us, cs, rs, sq⟩ := yw_sq_ex ⟨gp, m, k2, z⟩
  obtain ⟨o1, e1, h1⟩ := yw_fastXE (s := s) (x := x) (y := y) (n := n) (w := w) (f2 := f2) (f4 := f4) (f6 := f6) (f8 := f8) (f10 := f10) (f12 := f12) (f14 := f14) (f18 := f18) (f19 := f19) (f20 := f20) (f22 := f22) (f24 := f24) (f26 := f26) (f27 := f27) (g10 := g10) (g12 := g12) (g13 := g13) (g18 := g18) R k z sq
  obtain ⟨o2, e2, h2, h3⟩ := yw_fastME (s := s) (x := x) (y := y) (n := n) (w := w) (aA := aA) (g := g) (S := S) R k2 z sq
  refine ⟨o1, o2, e1, e2, ?_, h3⟩
  rcases h1 with ⟨a1, a2⟩ | ⟨a1, a2⟩
  · rcases h2 with ⟨-, b2⟩ | ⟨b1, -⟩
    · rw [a2, b2]
    · exact absurd a1 b1
  · rcases h2 with ⟨b1, -⟩ | ⟨-, b2⟩
    · exact absurd b1 a1
    · exact yw_fa_1 a2 b2
end YLZ
end
section
/-! How many ways: counting maps of names to stars, in any order of the names. -/
def yc_sum (f : Nat → Nat) : Nat → Nat
  | 0 => 0
  | k + 1 => yc_sum f k + f k
theorem yc_sum_cg {f g : Nat → Nat} : ∀ {k : Nat}, (∀ i, i < k → f i = g i) → yc_sum f k = yc_sum g k
  | 0, _ => rfl
  | k + 1, h => by
    show yc_sum f k + f k = yc_sum g k + g k
    rw [yc_sum_cg fun i hi => h i (by omega), h k (by omega)]
theorem yc_sum_add {f g : Nat → Nat} : ∀ k : Nat, yc_sum (fun i => f i + g i) k = yc_sum f k + yc_sum g k
  | 0 => rfl
  | k + 1 => by
    show yc_sum (fun i => f i + g i) k + (f k + g k) = yc_sum f k + f k + (yc_sum g k + g k)
    rw [yc_sum_add k]; omega
theorem yc_sum_0 : ∀ k : Nat, yc_sum (fun _ => 0) k = 0
  | 0 => rfl
  | k + 1 => by
    show yc_sum (fun _ => 0) k + 0 = 0
    rw [yc_sum_0 k]
theorem yc_sum_swap {f : Nat → Nat → Nat} {m : Nat} : ∀ k : Nat, yc_sum (fun i => yc_sum (fun j => f i j) m) k = yc_sum (fun j => yc_sum (fun i => f i j) k) m
  | 0 => (yc_sum_0 m).symm
  | k + 1 => by
    show yc_sum (fun i => yc_sum (fun j => f i j) m) k + yc_sum (fun j => f k j) m = yc_sum (fun j => yc_sum (fun i => f i j) k + f k j) m
    rw [yc_sum_swap k, yc_sum_add m]
theorem yc_sum_if {b : Bool} {f : Nat → Nat} {k : Nat} : (if b = true then yc_sum f k else 0) = yc_sum (fun i => if b = true then f i else 0) k := by
  cases b with
  | true => rfl
  | false => exact (yc_sum_0 k).symm
/-- what is left when a name is a star -/
def yc_nw (nr J row : Nat → Nat → Bool) (a i : Nat) : Nat → Nat → Bool := fun b j => row b j && (!(Nat.beq j i) && (!(nr a b) || J i j))
def yc (nr J : Nat → Nat → Bool) : List Nat → (Nat → Nat → Bool) → Nat
  | [], _ => 1
  | a :: ns, row => yc_sum (fun i => if row a i = true then yc nr J ns (yc_nw nr J row a i) else 0) 24
section YCNT
variable {nr J row row2 : Nat → Nat → Bool}
theorem yc_cg : ∀ {ns : List Nat} {row row2 : Nat → Nat → Bool}, (∀ b ∈ ns, ∀ j, j < 24 → row b j = row2 b j) → yc nr J ns row = yc nr J ns row2
  | [], _, _, _ => rfl
  | a :: ns, row, row2, h => by
    refine yc_sum_cg fun i hi => ?_
    rw [h a List.mem_cons_self i hi]
    by_cases c : row2 a i = true
    · rw [if_pos c, if_pos c]
      refine yc_cg fun b hb j hj => ?_
      unfold yc_nw
      rw [h b (List.mem_cons_of_mem _ hb) j hj]
    · rw [if_neg c, if_neg c]
theorem yc_2 {a b : Nat} {ns : List Nat} : yc nr J (a :: b :: ns) row = yc_sum (fun i => yc_sum (fun j => if (row a i && yc_nw nr J row a i b j) = true then yc nr J ns (yc_nw nr J (yc_nw nr J row a i) b j) else 0) 24) 24 := by
  refine yc_sum_cg fun i hi => ?_
  show (if row a i = true then yc_sum (fun j => if yc_nw nr J row a i b j = true then yc nr J ns (yc_nw nr J (yc_nw nr J row a i) b j) else 0) 24 else 0) = _
  rw [yc_sum_if]
  refine yc_sum_cg fun j hj => ?_
  cases row a i <;> rfl
theorem yc_swap (hn : ∀ a b, nr a b = nr b a) (hJ : ∀ i j, J i j = J j i) {a b : Nat} {ns : List Nat} : yc nr J (a :: b :: ns) row = yc nr J (b :: a :: ns) row := by
  rw [yc_2, yc_2, yc_sum_swap]
  refine yc_sum_cg fun j hj => yc_sum_cg fun i hi => ?_
  have e : (row a i && yc_nw nr J row a i b j) = (row b j && yc_nw nr J row b j a i) := by
    unfold yc_nw
    rw [hn b a, hJ j i, show Nat.beq j i = Nat.beq i j from by rw [Bool.eq_iff_iff, Nat.beq_eq, Nat.beq_eq]; exact eq_comm]
    cases row a i <;> cases row b j <;> rfl
  rw [e]
  by_cases c : (row b j && yc_nw nr J row b j a i) = true
  · rw [if_pos c, if_pos c]
    refine yc_cg fun d hd k hk => ?_
    unfold yc_nw
    cases row d k <;> cases Nat.beq k i <;> cases Nat.beq k j <;> cases nr a d <;> cases nr b d <;> cases J i k <;> cases J j k <;> rfl
  · rw [if_neg c, if_neg c]
theorem yc_front (hn : ∀ a b, nr a b = nr b a) (hJ : ∀ i j, J i j = J j i) {a : Nat} : ∀ {ns : List Nat} {row : Nat → Nat → Bool}, a ∈ ns → yc nr J ns row = yc nr J (a :: ns.erase a) row
  | b :: ns, row, h => by
    by_cases e : b = a
    · subst e; rw [List.erase_cons_head]
    · have hm : a ∈ ns := by
        rcases List.mem_cons.mp h with h | h
        · exact absurd h.symm e
        · exact h
      rw [List.erase_cons_tail (by simpa using e), ← yc_swap hn hJ]
      refine yc_sum_cg fun i hi => ?_
      rw [yc_front hn hJ hm]
/-- stars given anew -/
theorem yc_ren {π : Nat → Nat} (hp : ∀ i, i < 24 → π i < 24) (hpp : ∀ i, π (π i) = i) (hJ : ∀ i j, i < 24 → j < 24 → J (π i) (π j) = J i j) (hs : ∀ f : Nat → Nat, yc_sum (fun i => f (π i)) 24 = yc_sum f 24) : ∀ {ns : List Nat} {row : Nat → Nat → Bool}, yc nr J ns (fun b j => row b (π j)) = yc nr J ns row
  | [], _ => rfl
  | a :: ns, row => by
    show yc_sum (fun i => if row a (π i) = true then yc nr J ns (yc_nw nr J (fun b j => row b (π j)) a i) else 0) 24 = yc_sum (fun i => if row a i = true then yc nr J ns (yc_nw nr J row a i) else 0) 24
    rw [← hs (fun i => if row a i = true then yc nr J ns (yc_nw nr J row a i) else 0)]
    refine yc_sum_cg fun i hi => ?_
    show _ = if row a (π i) = true then yc nr J ns (yc_nw nr J row a (π i)) else 0
    by_cases c : row a (π i) = true
    · rw [if_pos c, if_pos c, ← yc_ren hp hpp hJ hs (row := yc_nw nr J row a (π i))]
      refine yc_cg fun b hb j hj => ?_
      unfold yc_nw
      rw [hJ i j hi hj]
      have : Nat.beq (π j) (π i) = Nat.beq j i := by
        rw [Bool.eq_iff_iff, Nat.beq_eq, Nat.beq_eq]
        exact ⟨fun e => by rw [← hpp j, e, hpp], fun e => by rw [e]⟩
      rw [this]
    · rw [if_neg c, if_neg c]
end YCNT
theorem yc_sum_up {f : Nat → Nat} {i v : Nat} : ∀ {n : Nat}, i < n → yc_sum (fun j => if j = i then v else f j) n + f i = yc_sum f n + v
  | n + 1, h => by
    show yc_sum (fun j => if j = i then v else f j) n + (if n = i then v else f n) + f i = yc_sum f n + f n + v
    by_cases e : n = i
    · subst e
      rw [if_pos rfl, yc_sum_cg (f := fun j => if j = n then v else f j) (g := f) fun j hj => if_neg (by omega)]
      omega
    · have := yc_sum_up (f := f) (v := v) (show i < n by omega)
      rw [if_neg e]
      omega
def yc_tr (i k j : Nat) : Nat := if j = i then k else if j = k then i else j
theorem yc_tr_tr {i k j : Nat} : yc_tr i k (yc_tr i k j) = j := by
  unfold yc_tr
  (repeat' split) <;> omega
theorem yc_tr_lt {i k j n : Nat} (hi : i < n) (hk : k < n) (hj : j < n) : yc_tr i k j < n := by
  unfold yc_tr
  (repeat' split) <;> omega
theorem yc_sum_tr {f : Nat → Nat} {i k n : Nat} (hi : i < n) (hk : k < n) : yc_sum (fun j => f (yc_tr i k j)) n = yc_sum f n := by
  by_cases e : i = k
  · subst e
    refine yc_sum_cg fun j _ => ?_
    have : yc_tr i i j = j := by unfold yc_tr; (repeat' split) <;> omega
    rw [this]
  · have h1 := yc_sum_up (f := f) (v := f k) hi
    have h2 := yc_sum_up (f := fun j => if j = i then f k else f j) (v := f i) hk
    have e2 : (if k = i then f k else f k) = f k := by split <;> rfl
    have h3 : yc_sum (fun j => f (yc_tr i k j)) n = yc_sum (fun j => if j = k then f i else if j = i then f k else f j) n := yc_sum_cg fun j _ => by
      unfold yc_tr
      by_cases a : j = i
      · rw [if_pos a, if_neg (show ¬ j = k by omega), if_pos a]
      · by_cases b : j = k
        · rw [if_neg a, if_pos b, if_pos b]
        · rw [if_neg a, if_neg b, if_neg b, if_neg a]
    rw [h3]
    have h2 : yc_sum (fun j => if j = k then f i else if j = i then f k else f j) n + (if k = i then f k else f k) = yc_sum (fun j => if j = i then f k else f j) n + f i := h2
    rw [e2] at h2
    omega
/-- twins: the same lines but to each other -/
def yc_tw (J : Nat → Nat → Bool) (i k : Nat) : Prop := ∀ x, x < 24 → x ≠ i → x ≠ k → J i x = J k x
theorem yc_tw_J {J : Nat → Nat → Bool} (hJ : ∀ i j, J i j = J j i) (hx : ∀ i, J i i = false) {i k : Nat} (h : yc_tw J i k) : ∀ x y, x < 24 → y < 24 → J (yc_tr i k x) (yc_tr i k y) = J x y := by
  intro x y hx0 hy0
  unfold yc_tr
  by_cases a : x = i
  · rw [if_pos a]
    by_cases b : y = i
    · rw [if_pos b, a, b, hx, hx]
    · rw [if_neg b]
      by_cases c : y = k
      · rw [if_pos c, a, c, hJ]
      · rw [if_neg c, a]; exact (h y hy0 b c).symm
  · rw [if_neg a]
    by_cases a2 : x = k
    · rw [if_pos a2]
      by_cases b : y = i
      · rw [if_pos b, a2, b, hJ]
      · rw [if_neg b]
        by_cases c : y = k
        · rw [if_pos c, a2, c, hx, hx]
        · rw [if_neg c, a2]; exact h y hy0 b c
    · rw [if_neg a2]
      by_cases b : y = i
      · rw [if_pos b, b, hJ x k, hJ x i]; exact (h x hx0 a a2).symm
      · rw [if_neg b]
        by_cases c : y = k
        · rw [if_pos c, c, hJ x i, hJ x k]; exact h x hx0 a a2
        · rw [if_neg c]
theorem yc_twin {nr J row : Nat → Nat → Bool} (hJ : ∀ i j, J i j = J j i) (hx : ∀ i, J i i = false) {i k a : Nat} (hi : i < 24) (hk : k < 24) (h : yc_tw J i k) {ns : List Nat} (hr : ∀ b ∈ ns, row b i = row b k) : yc nr J ns (yc_nw nr J row a k) = yc nr J ns (yc_nw nr J row a i) := by
  rw [← yc_ren (π := yc_tr i k) (fun j hj => yc_tr_lt hi hk hj) (fun j => yc_tr_tr) (yc_tw_J hJ hx h) (fun f => yc_sum_tr hi hk) (row := yc_nw nr J row a k)]
  refine yc_cg fun b hb j hj => ?_
  have e1 : row b (yc_tr i k j) = row b j := by
    unfold yc_tr
    by_cases c : j = i
    · rw [if_pos c, c, hr b hb]
    · rw [if_neg c]
      by_cases d : j = k
      · rw [if_pos d, d, hr b hb]
      · rw [if_neg d]
  have e2 : Nat.beq (yc_tr i k j) k = Nat.beq j i := by
    rw [Bool.eq_iff_iff, Nat.beq_eq, Nat.beq_eq]
    unfold yc_tr
    (repeat' split) <;> omega
  have e3 : J k (yc_tr i k j) = J i j := by
    have := yc_tw_J hJ hx h i j hi hj
    rw [← this]
    unfold yc_tr
    rw [if_pos rfl]
  unfold yc_nw
  rw [e1, e2, e3]
end
section
/-! Maps of names to stars: when there is one, what may be left out, how many stars it wants. -/
def yc_w (nr J row : Nat → Nat → Bool) (ns : List Nat) (S : Nat → Nat) : Prop :=
  (∀ a ∈ ns, S a < 24 ∧ row a (S a) = true) ∧ ∀ a ∈ ns, ∀ b ∈ ns, a ≠ b → S a ≠ S b ∧ (nr a b = true → J (S a) (S b) = true)
theorem yc_nw_t {nr J row : Nat → Nat → Bool} {a i b j : Nat} : yc_nw nr J row a i b j = true ↔ row b j = true ∧ j ≠ i ∧ (nr a b = true → J i j = true) := by
  unfold yc_nw
  have e : (!(Nat.beq j i)) = true ↔ j ≠ i := by
    constructor
    · intro h w
      subst w
      rw [Nat.beq_refl] at h
      exact absurd h (by decide)
    · intro h
      rw [Bool.not_eq_true', Bool.eq_false_iff]
      exact fun w => h (Nat.eq_of_beq_eq_true w)
  rw [Bool.and_eq_true, Bool.and_eq_true, e]
  cases nr a b <;> cases J i j <;> simp
theorem yc_sum_pos {f : Nat → Nat} {i : Nat} : ∀ {n : Nat}, i < n → 0 < f i → 0 < yc_sum f n
  | n + 1, h, h2 => by
    show 0 < yc_sum f n + f n
    by_cases e : i = n
    · subst e; omega
    · have := yc_sum_pos (show i < n by omega) h2
      omega
theorem yc_sum_ex {f : Nat → Nat} : ∀ {n : Nat}, 0 < yc_sum f n → ∃ i, i < n ∧ 0 < f i
  | 0, h => absurd h (Nat.lt_irrefl 0)
  | n + 1, h => by
    have h : 0 < yc_sum f n + f n := h
    by_cases e : 0 < f n
    · exact ⟨n, Nat.lt_succ_self n, e⟩
    · obtain ⟨i, i1, i2⟩ := yc_sum_ex (f := f) (n := n) (by omega)
      exact ⟨i, by omega, i2⟩
theorem yc_w_cg {nr J row : Nat → Nat → Bool} {ns : List Nat} {S S2 : Nat → Nat} (e : ∀ b ∈ ns, S b = S2 b) (h : yc_w nr J row ns S) : yc_w nr J row ns S2 := by
  refine ⟨fun a ha => ?_, fun a ha b hb hab => ?_⟩
  · rw [← e a ha]; exact h.1 a ha
  · rw [← e a ha, ← e b hb]; exact h.2 a ha b hb hab
theorem yc_w_row {nr J row row2 : Nat → Nat → Bool} {ns : List Nat} {S : Nat → Nat} (h : yc_w nr J row ns S) (e : ∀ b ∈ ns, row2 b (S b) = true) : yc_w nr J row2 ns S :=
  ⟨fun a ha => ⟨(h.1 a ha).1, e a ha⟩, h.2⟩
theorem yc_w_cons {nr J row : Nat → Nat → Bool} (hn : ∀ a b, nr a b = nr b a) (hJ : ∀ i j, J i j = J j i) {a : Nat} {ns : List Nat} {S : Nat → Nat} (ha : a ∉ ns) : yc_w nr J row (a :: ns) S ↔ S a < 24 ∧ row a (S a) = true ∧ yc_w nr J (yc_nw nr J row a (S a)) ns S := by
  constructor
  · intro h
    have h0 := h.1 a List.mem_cons_self
    refine ⟨h0.1, h0.2, fun b hb => ?_, fun b hb c hc hbc => h.2 b (List.mem_cons_of_mem _ hb) c (List.mem_cons_of_mem _ hc) hbc⟩
    have hab : a ≠ b := fun e => ha (by rw [e]; exact hb)
    have h1 := h.1 b (List.mem_cons_of_mem _ hb)
    have h2 := h.2 a List.mem_cons_self b (List.mem_cons_of_mem _ hb) hab
    exact ⟨h1.1, yc_nw_t.mpr ⟨h1.2, fun e => h2.1 e.symm, h2.2⟩⟩
  · rintro ⟨h1, h2, h3, h4⟩
    have hx : ∀ b ∈ ns, S a ≠ S b ∧ (nr a b = true → J (S a) (S b) = true) := fun b hb => by
      have q := yc_nw_t.mp (h3 b hb).2
      exact ⟨fun e => q.2.1 e.symm, q.2.2⟩
    refine ⟨fun b hb => ?_, fun b hb c hc hbc => ?_⟩
    · rcases List.mem_cons.mp hb with e | hb
      · rw [e]; exact ⟨h1, h2⟩
      · exact ⟨(h3 b hb).1, (yc_nw_t.mp (h3 b hb).2).1⟩
    · rcases List.mem_cons.mp hb with e | hb
      · rcases List.mem_cons.mp hc with e2 | hc
        · exact absurd (e.trans e2.symm) hbc
        · rw [e]; exact hx c hc
      · rcases List.mem_cons.mp hc with e2 | hc
        · rw [e2]
          have q := hx b hb
          exact ⟨fun w => q.1 w.symm, fun w => by rw [hJ]; exact q.2 (by rw [hn]; exact w)⟩
        · exact h4 b hb c hc hbc
theorem yc_upd (S : Nat → Nat) (a i : Nat) : ∃ S2 : Nat → Nat, S2 a = i ∧ ∀ b, b ≠ a → S2 b = S b := ⟨fun b => if b = a then i else S b, if_pos rfl, fun b hb => if_neg hb⟩
theorem yc_pos1 {nr J : Nat → Nat → Bool} (hn : ∀ a b, nr a b = nr b a) (hJ : ∀ i j, J i j = J j i) : ∀ {ns : List Nat} {row : Nat → Nat → Bool} {S : Nat → Nat}, ns.Nodup → yc_w nr J row ns S → 0 < yc nr J ns row
  | [], _, _, _, _ => Nat.one_pos
  | a :: ns, row, S, hd, h => by
    obtain ⟨d1, d2⟩ := List.nodup_cons.mp hd
    obtain ⟨h1, h2, h3⟩ := (yc_w_cons hn hJ d1).mp h
    show 0 < yc_sum (fun i => if row a i = true then yc nr J ns (yc_nw nr J row a i) else 0) 24
    refine yc_sum_pos h1 ?_
    show 0 < if row a (S a) = true then yc nr J ns (yc_nw nr J row a (S a)) else 0
    rw [if_pos h2]
    exact yc_pos1 hn hJ d2 h3
theorem yc_pos2 {nr J : Nat → Nat → Bool} (hn : ∀ a b, nr a b = nr b a) (hJ : ∀ i j, J i j = J j i) : ∀ {ns : List Nat} {row : Nat → Nat → Bool}, ns.Nodup → 0 < yc nr J ns row → ∃ S, yc_w nr J row ns S
  | [], _, _, _ => ⟨fun _ => 0, fun a ha => (by cases ha), fun a ha => (by cases ha)⟩
  | a :: ns, row, hd, h => by
    obtain ⟨d1, d2⟩ := List.nodup_cons.mp hd
    obtain ⟨i, i1, i2⟩ := yc_sum_ex (f := fun i => if row a i = true then yc nr J ns (yc_nw nr J row a i) else 0) h
    have i2 : 0 < if row a i = true then yc nr J ns (yc_nw nr J row a i) else 0 := i2
    by_cases c : row a i = true
    · rw [if_pos c] at i2
      obtain ⟨S, hS⟩ := yc_pos2 hn hJ d2 i2
      obtain ⟨S2, ea, eb⟩ := yc_upd S a i
      refine ⟨S2, (yc_w_cons hn hJ d1).mpr ?_⟩
      rw [ea]
      exact ⟨i1, c, yc_w_cg (fun b hb => (eb b fun e => d1 (by rw [← e]; exact hb)).symm) hS⟩
    · rw [if_neg c] at i2
      exact absurd i2 (Nat.lt_irrefl 0)
/-- what no way has may be left out -/
theorem yc_prune {nr J : Nat → Nat → Bool} (hn : ∀ a b, nr a b = nr b a) (hJ : ∀ i j, J i j = J j i) : ∀ {ns : List Nat} {row row2 : Nat → Nat → Bool}, ns.Nodup → (∀ b ∈ ns, ∀ j, j < 24 → row2 b j = true → row b j = true) → (∀ S, yc_w nr J row ns S → ∀ b ∈ ns, row2 b (S b) = true) → yc nr J ns row2 = yc nr J ns row
  | [], _, _, _, _, _ => rfl
  | a :: ns, row, row2, hd, h1, h2 => by
    obtain ⟨d1, d2⟩ := List.nodup_cons.mp hd
    have up : ∀ i, i < 24 → row a i = true → ∀ S, yc_w nr J (yc_nw nr J row a i) ns S → row2 a i = true ∧ ∀ b ∈ ns, row2 b (S b) = true := fun i i1 hi S hS => by
      obtain ⟨S2, ea, eb⟩ := yc_upd S a i
      have hw : yc_w nr J row (a :: ns) S2 := (yc_w_cons hn hJ d1).mpr (by
        rw [ea]
        exact ⟨i1, hi, yc_w_cg (fun b hb => (eb b fun e => d1 (by rw [← e]; exact hb)).symm) hS⟩)
      refine ⟨?_, fun b hb => ?_⟩
      · have := h2 _ hw a List.mem_cons_self
        rwa [ea] at this
      · have := h2 _ hw b (List.mem_cons_of_mem _ hb)
        rwa [eb b fun e => d1 (by rw [← e]; exact hb)] at this
    refine yc_sum_cg fun i hi => ?_
    by_cases c2 : row2 a i = true
    · have c := h1 a List.mem_cons_self i hi c2
      rw [if_pos c2, if_pos c]
      refine yc_prune hn hJ d2 (fun b hb j hj hr => ?_) fun S hS b hb => ?_
      · have q := yc_nw_t.mp hr
        exact yc_nw_t.mpr ⟨h1 b (List.mem_cons_of_mem _ hb) j hj q.1, q.2⟩
      · have q := yc_nw_t.mp (hS.1 b hb).2
        exact yc_nw_t.mpr ⟨(up i hi c S hS).2 b hb, q.2⟩
    · rw [if_neg c2]
      by_cases c : row a i = true
      · rw [if_pos c]
        by_cases z : 0 < yc nr J ns (yc_nw nr J row a i)
        · obtain ⟨S, hS⟩ := yc_pos2 hn hJ d2 z
          exact absurd (up i hi c S hS).1 c2
        · omega
      · rw [if_neg c]
/-- the order of the names is for nothing -/
theorem yc_set {nr J : Nat → Nat → Bool} (hn : ∀ a b, nr a b = nr b a) (hJ : ∀ i j, J i j = J j i) : ∀ {l l2 : List Nat} {row : Nat → Nat → Bool}, l.Nodup → l2.Nodup → (∀ a, a ∈ l ↔ a ∈ l2) → yc nr J l row = yc nr J l2 row
  | [], l2, _, _, _, h => by
    cases l2 with
    | nil => rfl
    | cons b l2 => exact absurd ((h b).mpr List.mem_cons_self) (by intro w; cases w)
  | a :: l, l2, row, d1, d2, h => by
    obtain ⟨e1, e2⟩ := List.nodup_cons.mp d1
    rw [yc_front hn hJ ((h a).mp List.mem_cons_self)]
    refine yc_sum_cg fun i hi => ?_
    rw [yc_set hn hJ (l2 := l2.erase a) e2 (d2.erase a) fun b => ?_]
    rw [d2.mem_erase_iff]
    constructor
    · intro hb
      exact ⟨fun e => e1 (by rw [← e]; exact hb), (h b).mp (List.mem_cons_of_mem _ hb)⟩
    · rintro ⟨n1, hb⟩
      rcases List.mem_cons.mp ((h b).mpr hb) with e | hb
      · exact absurd e n1
      · exact hb
/-- names from a set -/
def yc_ls (f : Nat → Bool) : Nat → List Nat
  | 0 => []
  | n + 1 => cond (f n) (n :: yc_ls f n) (yc_ls f n)
theorem yc_ls_mem {f : Nat → Bool} {a : Nat} : ∀ {n : Nat}, a ∈ yc_ls f n ↔ a < n ∧ f a = true
  | 0 => ⟨fun h => (by cases h), fun h => absurd h.1 (Nat.not_lt_zero a)⟩
  | n + 1 => by
    have ih := yc_ls_mem (f := f) (a := a) (n := n)
    show a ∈ cond (f n) (n :: yc_ls f n) (yc_ls f n) ↔ _
    cases e : f n with
    | true =>
      show a ∈ n :: yc_ls f n ↔ _
      rw [List.mem_cons, ih]
      constructor
      · rintro (h | h)
        · subst h; exact ⟨Nat.lt_succ_self a, e⟩
        · exact ⟨by omega, h.2⟩
      · rintro ⟨h1, h2⟩
        by_cases w : a = n
        · exact .inl w
        · exact .inr ⟨by omega, h2⟩
    | false =>
      show a ∈ yc_ls f n ↔ _
      rw [ih]
      constructor
      · rintro ⟨h1, h2⟩; exact ⟨by omega, h2⟩
      · rintro ⟨h1, h2⟩
        refine ⟨?_, h2⟩
        by_cases w : a = n
        · subst w; rw [h2] at e; cases e
        · omega
theorem yc_ls_nd {f : Nat → Bool} : ∀ {n : Nat}, (yc_ls f n).Nodup
  | 0 => List.nodup_nil
  | n + 1 => by
    show (cond (f n) (n :: yc_ls f n) (yc_ls f n)).Nodup
    cases f n with
    | true => exact List.nodup_cons.mpr ⟨fun h => absurd (yc_ls_mem.mp h).1 (Nat.lt_irrefl n), yc_ls_nd⟩
    | false => exact yc_ls_nd
theorem yc_ls_len {f : Nat → Bool} : ∀ {n : Nat}, ((yc_ls f n).length : Int) = yn_n f n
  | 0 => rfl
  | n + 1 => by
    show ((cond (f n) (n :: yc_ls f n) (yc_ls f n)).length : Int) = yn_n f n + (if f n = true then 1 else 0)
    have ih := yc_ls_len (f := f) (n := n)
    cases f n with
    | true =>
      show (((yc_ls f n).length + 1 : Nat) : Int) = yn_n f n + 1
      omega
    | false =>
      show ((yc_ls f n).length : Int) = yn_n f n + 0
      omega
/-- as many stars as names -/
theorem yc_pig {S : Nat → Nat} : ∀ {ns : List Nat} {z : Nat → Bool}, ns.Nodup → (∀ a ∈ ns, S a < 24 ∧ z (S a) = true) → (∀ a ∈ ns, ∀ b ∈ ns, a ≠ b → S a ≠ S b) → (ns.length : Int) ≤ yn_n z 24
  | [], z, _, _, _ => (yn_in 24).1
  | a :: ns, z, hd, h1, h2 => by
    obtain ⟨d1, d2⟩ := List.nodup_cons.mp hd
    have ha := h1 a List.mem_cons_self
    have hz : yn_n z 24 = yn_n (fun j => z j && !Nat.beq j (S a)) 24 + 1 := yn_add (k := S a) (by
      show (z (S a) && !Nat.beq (S a) (S a)) = false
      rw [Nat.beq_refl, Bool.not_true, Bool.and_false]) ha.2 24 ha.1 fun j _ hj => by
      show (z j && !Nat.beq j (S a)) = z j
      have : Nat.beq j (S a) = false := Bool.eq_false_iff.mpr fun w => hj (Nat.eq_of_beq_eq_true w)
      rw [this, Bool.not_false, Bool.and_true]
    have ih := yc_pig (S := S) (z := fun j => z j && !Nat.beq j (S a)) d2 (fun b hb => by
      have hb1 := h1 b (List.mem_cons_of_mem _ hb)
      refine ⟨hb1.1, ?_⟩
      show (z (S b) && !Nat.beq (S b) (S a)) = true
      have : Nat.beq (S b) (S a) = false := Bool.eq_false_iff.mpr fun w => h2 a List.mem_cons_self b (List.mem_cons_of_mem _ hb) (fun e => d1 (by rw [e]; exact hb)) (Nat.eq_of_beq_eq_true w).symm
      rw [this, hb1.2]; rfl) fun b hb c hc => h2 b (List.mem_cons_of_mem _ hb) c (List.mem_cons_of_mem _ hc)
    rw [hz, List.length_cons]
    omega
/-- more names than stars: no way -/
theorem yc_few {nr J : Nat → Nat → Bool} (hn : ∀ a b, nr a b = nr b a) (hJ : ∀ i j, J i j = J j i) {ns : List Nat} {row : Nat → Nat → Bool} {z : Nat → Bool} (hd : ns.Nodup) (hz : ∀ b ∈ ns, ∀ j, row b j = true → z j = true) (h : yn_n z 24 < ns.length) : yc nr J ns row = 0 := by
  by_cases c : 0 < yc nr J ns row
  · obtain ⟨S, h1, h2⟩ := yc_pos2 hn hJ hd c
    have := yc_pig (S := S) (z := z) hd (fun a ha => ⟨(h1 a ha).1, hz a ha _ (h1 a ha).2⟩) fun a ha b hb hab => (h2 a ha b hb hab).1
    omega
  · omega
/-- a star of a way has as many lines as its name -/
theorem yc_legs {nr J row : Nat → Nat → Bool} {ns : List Nat} {S : Nat → Nat} {z : Nat → Bool} (hz : ∀ b ∈ ns, ∀ j, row b j = true → z j = true) (h : yc_w nr J row ns S) {a : Nat} (ha : a ∈ ns) {f : Nat → Bool} {n : Nat} (hf : ∀ b, b < n → f b = true → b ∈ ns ∧ b ≠ a ∧ nr a b = true) : yn_n f n ≤ yn_n (fun j => J (S a) j && z j) 24 := by
  rw [← yc_ls_len]
  refine yc_pig (S := S) yc_ls_nd (fun b hb => ?_) fun b hb c hc hbc => ?_
  · obtain ⟨b1, b2⟩ := yc_ls_mem.mp hb
    obtain ⟨c1, c2, c3⟩ := hf b b1 b2
    refine ⟨(h.1 b c1).1, ?_⟩
    show (J (S a) (S b) && z (S b)) = true
    rw [(h.2 a ha b c1 fun e => c2 e.symm).2 c3, hz b c1 _ (h.1 b c1).2]; rfl
  · obtain ⟨b1, b2⟩ := yc_ls_mem.mp hb
    obtain ⟨c1, c2⟩ := yc_ls_mem.mp hc
    exact (h.2 b (hf b b1 b2).1 c (hf c c1 c2).1 hbc).1
end
section
/-! The matcher's small functions: what they answer, bit by bit. -/
def ym_nw (nr J : Int → Int) (a i v b : Int) : Int := if zb (nr a) b.toNat = true then zi_and (zi_and v (zi_xor (zi_shl 1 i) (-1))) (J i) else zi_and v (zi_xor (zi_shl 1 i) (-1))
theorem ym_narrow {x1 x2 a i : Int} {G nr J : Int → Int} (h1 : 0 ≤ x1) (h2 : x1 < 8) (a0 : 0 ≤ a) (a1 : a < 8) (i0 : 0 ≤ i) (i1 : i < 24) :
    zh_ok (zf_Matcher_narrow x1 x2 a i G nr J) fun o => (∀ q, q < 8 * x1 + 8 → o.2 q = G q) ∧ ((o.1 = 1 ∧ ∀ b : Int, 0 ≤ b → b < 8 → zb x2 b.toNat = true → o.2 (8 * x1 + 8 + b) = ym_nw nr J a i (G (8 * x1 + b)) b) ∨ (o.1 = 0 ∧ ∃ b : Int, 0 ≤ b ∧ b < 8 ∧ zb x2 b.toNat = true ∧ ym_nw nr J a i (G (8 * x1 + b)) b = 0)) := by
  unfold zf_Matcher_narrow
  rw [zi_w_id (x := x1 * 8) (by omega) (by omega), zi_w_id (x := x1 * 8 + 8) (by omega) (by omega), show x1 * 8 = 8 * x1 from Int.mul_comm _ _]
  obtain ⟨o, eo⟩ : ∃ o, o = 8 * x1 := ⟨_, rfl⟩
  rw [← eo]
  have o0 : 0 ≤ o := by omega
  have o1 : o ≤ 56 := by omega
  refine zh_sum (Q := fun q => match q with
    | .inl g => (∀ q, q < o + 8 → g q = G q) ∧ ∀ b : Int, 0 ≤ b → b < 8 → zb x2 b.toNat = true → g (o + 8 + b) = ym_nw nr J a i (G (o + b)) b
    | .inr w => w.1 = 0 ∧ (∀ q, q < o + 8 → w.2 q = G q) ∧ ∃ b : Int, 0 ≤ b ∧ b < 8 ∧ zb x2 b.toNat = true ∧ ym_nw nr J a i (G (o + b)) b = 0) (zh_loop (F := fun n j (g : Int → Int) => zf_Matcher_narrow_l0 x2 a i o (o + 8) nr J n j g) (N := 8) (I := fun j g => (∀ q, q < o + 8 → g q = G q) ∧ ∀ b : Int, 0 ≤ b → b < j → zb x2 b.toNat = true → g (o + 8 + b) = ym_nw nr J a i (G (o + b)) b) (fun n j g j0 j1 hI k => ?_) 8 0 G zi_fu (by decide) (by decide) (by decide) (by decide) ⟨fun _ _ => rfl, fun b b0 b1 => by omega⟩) (fun g hg => zh_ret ⟨hg.1, .inl ⟨rfl, hg.2⟩⟩) fun w hw => zh_ret ⟨hw.2.1, .inr ⟨hw.1, hw.2.2⟩⟩
  obtain ⟨f1, f2⟩ := hI
  show zh_ok (zf_Matcher_narrow_l0_b x2 a i o (o + 8) nr J (zf_Matcher_narrow_l0 x2 a i o (o + 8) nr J n) j g) _
  unfold zf_Matcher_narrow_l0_b
  refine zh_ite (fun hj => ?_) fun _ => zh_ret ⟨f1, fun b b0 b1 hb => f2 b b0 (by omega) hb⟩
  rw [zi_w_id (x := j + 1) (by omega) (by omega), zi_w_id (x := o + j) (by omega) (by omega), zi_w_id (x := o + 8 + j) (by omega) (by omega), f1 (o + j) (by omega)]
  by_cases hb : zb x2 j.toNat = true
  · rw [zb_bit1 j0 (by omega) hb, if_neg (show ¬ (1 : Int) = 0 by decide), zl_ci (a := o + j) (by omega) (by omega), zl_ci a0 (by omega)]
    have step : zh_ok (zf_Matcher_narrow_l0 x2 a i o (o + 8) nr J n (j + 1) (zv_up g (o + 8 + j) (ym_nw nr J a i (G (o + j)) j))) _ := k _ hj ⟨fun q hq => by rw [zv_up_n (by omega)]; exact f1 q hq, fun b b0 b1 hb2 => by
      by_cases e : b = j
      · subst e; rw [zv_up_s]
      · rw [zv_up_n (by omega)]; exact f2 b b0 (by omega) hb2⟩
    by_cases hn : zb (nr a) j.toNat = true
    · rw [zb_bit1 j0 (by omega) hn, if_neg (show ¬ (1 : Int) = 0 by decide), zl_ci i0 (by omega)]
      have e : ym_nw nr J a i (G (o + j)) j = zi_and (zi_and (G (o + j)) (zi_xor (zi_shl 1 i) (-1))) (J i) := if_pos hn
      rw [← e]
      refine zh_ite (fun hz => zh_ret ⟨rfl, f1, j, j0, hj, hb, hz⟩) fun hz => ?_
      rw [zl_ci (a := o + 8 + j) (by omega) (by omega)]
      exact step
    · rw [zb_bit0 j0 (by omega) hn, if_pos rfl]
      have e : ym_nw nr J a i (G (o + j)) j = zi_and (G (o + j)) (zi_xor (zi_shl 1 i) (-1)) := if_neg hn
      rw [← e]
      refine zh_ite (fun hz => zh_ret ⟨rfl, f1, j, j0, hj, hb, hz⟩) fun hz => ?_
      rw [zl_ci (a := o + 8 + j) (by omega) (by omega)]
      exact step
  · rw [zb_bit0 j0 (by omega) hb, if_pos rfl]
    exact k g hj ⟨f1, fun b b0 b1 hb2 => f2 b b0 (by
      by_cases e : b = j
      · subst e; exact absurd hb2 hb
      · omega) hb2⟩
theorem ym_nw_b {nr J : Int → Int} {a i v b : Int} {q : Nat} (i0 : 0 ≤ i) (i1 : i < 24) (hq : q < 24) : zb (ym_nw nr J a i v b) q = (zb v q && (!decide (q = i.toNat) && (!zb (nr a) b.toNat || zb (J i) q))) := by
  unfold ym_nw
  by_cases hn : zb (nr a) b.toNat = true
  · rw [if_pos hn, zb_and, zb_clr i0 i1 hq, hn]
    cases zb v q <;> cases decide (q = i.toNat) <;> cases zb (J i) q <;> rfl
  · rw [if_neg hn, zb_clr i0 i1 hq, Bool.eq_false_iff.mpr hn]
    cases zb v q <;> cases decide (q = i.toNat) <;> rfl
theorem ym_nw_24 {nr J : Int → Int} {a i v b : Int} (h : z24 v) : z24 (ym_nw nr J a i v b) := by
  unfold ym_nw
  split
  · exact z24_and (z24_and h)
  · exact z24_and h
theorem ym_besides {x1 : Int} {J : Int → Int} (hJ : ∀ i : Nat, i < 24 → z24 (J i)) : zh_ok (zf_Matcher_besides x1 J) fun s => z24 s ∧ ∀ q, zb s q = true ↔ ∃ r : Nat, r < 24 ∧ zb x1 r = true ∧ zb (J r) q = true := by
  refine zh_bind (Q := fun s => z24 s ∧ ∀ q, zb s q = true ↔ ∃ r : Nat, r < 24 ∧ zb x1 r = true ∧ zb (J r) q = true) (zh_loop (F := fun n i (a : Int) => zf_Matcher_besides_l0 x1 J n a i) (N := 24) (I := fun i a => z24 a ∧ ∀ q, zb a q = true ↔ ∃ r : Nat, (r : Int) < i ∧ zb x1 r = true ∧ zb (J r) q = true) (fun n i a i0 i1 hI k => ?_) 24 0 0 zi_fu (by decide) (by decide) (by decide) (by decide) ⟨z24_0, fun q => ?_⟩) fun o ho => zh_ret ho
  · obtain ⟨h1, h2⟩ := hI
    show zh_ok (zf_Matcher_besides_l0_b x1 J (zf_Matcher_besides_l0 x1 J n) a i) _
    unfold zf_Matcher_besides_l0_b
    refine zh_ite (fun hi => ?_) fun _ => zh_ret ⟨h1, fun q => ?_⟩
    · obtain ⟨m, rfl⟩ : ∃ m : Nat, i = m := ⟨i.toNat, by omega⟩
      rw [zi_w_id (x := (m : Int) + 1) (by omega) (by omega)]
      by_cases hb : zb x1 m = true
      · rw [zb_bit1 (t := x1) (i := (m : Int)) i0 (by omega) hb, if_neg (show ¬ (1 : Int) = 0 by decide), zl_ci i0 (by omega)]
        refine k _ hi ⟨z24_or h1 (hJ m (by omega)), fun q => ?_⟩
        rw [zb_or, Bool.or_eq_true, h2]
        constructor
        · rintro (⟨r, r1, r2⟩ | h)
          · exact ⟨r, by omega, r2⟩
          · exact ⟨m, by omega, hb, h⟩
        · rintro ⟨r, r1, r2, r3⟩
          by_cases e : r = m
          · subst e; exact .inr r3
          · exact .inl ⟨r, by omega, r2, r3⟩
      · rw [zb_bit0 (t := x1) (i := (m : Int)) i0 (by omega) hb, if_pos rfl]
        refine k _ hi ⟨h1, fun q => ?_⟩
        rw [h2]
        constructor
        · rintro ⟨r, r1, r2⟩; exact ⟨r, by omega, r2⟩
        · rintro ⟨r, r1, r2, r3⟩
          refine ⟨r, ?_, r2, r3⟩
          by_cases e : r = m
          · subst e; exact absurd r2 hb
          · omega
    · rw [h2]
      constructor
      · rintro ⟨r, r1, r2⟩; exact ⟨r, by omega, r2⟩
      · rintro ⟨r, r1, r2⟩; exact ⟨r, by omega, r2⟩
  · rw [zb_0]
    exact ⟨fun h => (by cases h), fun ⟨r, h, _⟩ => by omega⟩
theorem ym_agree2 {o x7 v : Int} {G J : Int → Int} (hJ : ∀ i : Nat, i < 24 → z24 (J i)) (o0 : 0 ≤ o) (o1 : o ≤ 64) (hv : z24 v) : zh_ok (zf_Matcher_agree_l2 o x7 G J zi_fu v 0) fun s => z24 s ∧ ∀ q, zb s q = true ↔ zb v q = true ∧ ∀ b : Nat, b < 8 → zb x7 b = true → ∃ r : Nat, r < 24 ∧ zb (G (o + b)) r = true ∧ zb (J r) q = true := by
  refine zh_loop (F := fun n i (a : Int) => zf_Matcher_agree_l2 o x7 G J n a i) (N := 8) (I := fun i a => z24 a ∧ ∀ q, zb a q = true ↔ zb v q = true ∧ ∀ b : Nat, (b : Int) < i → zb x7 b = true → ∃ r : Nat, r < 24 ∧ zb (G (o + b)) r = true ∧ zb (J r) q = true) (fun n i a i0 i1 hI k => ?_) 8 0 v zi_fu (by decide) (by decide) (by decide) (by decide) ⟨hv, fun q => ⟨fun h => ⟨h, fun b hb => by omega⟩, fun h => h.1⟩⟩
  obtain ⟨h1, h2⟩ := hI
  show zh_ok (zf_Matcher_agree_l2_b o x7 G J (zf_Matcher_agree_l2 o x7 G J n) a i) _
  unfold zf_Matcher_agree_l2_b
  refine zh_ite (fun hi => ?_) fun _ => zh_ret ⟨h1, fun q => ?_⟩
  · obtain ⟨m, rfl⟩ : ∃ m : Nat, i = m := ⟨i.toNat, by omega⟩
    rw [zi_w_id (x := (m : Int) + 1) (by omega) (by omega), zi_w_id (x := o + (m : Int)) (by omega) (by omega)]
    by_cases hb : zb x7 m = true
    · rw [zb_bit1 (t := x7) (i := (m : Int)) i0 (by omega) hb, if_neg (show ¬ (1 : Int) = 0 by decide), zl_ci (a := o + (m : Int)) (by omega) (by omega)]
      refine zh_bind (ym_besides hJ) fun s hs => k _ hi ⟨z24_and h1, fun q => ?_⟩
      rw [zb_and, Bool.and_eq_true, h2, hs.2]
      constructor
      · rintro ⟨⟨c1, c2⟩, c3⟩
        refine ⟨c1, fun b hb2 hx => ?_⟩
        by_cases e : b = m
        · subst e; exact c3
        · exact c2 b (by omega) hx
      · rintro ⟨c1, c2⟩
        exact ⟨⟨c1, fun b hb2 hx => c2 b (by omega) hx⟩, c2 m (by omega) hb⟩
    · rw [zb_bit0 (t := x7) (i := (m : Int)) i0 (by omega) hb, if_pos rfl]
      refine k _ hi ⟨h1, fun q => ?_⟩
      rw [h2]
      constructor
      · rintro ⟨c1, c2⟩
        refine ⟨c1, fun b hb2 hx => ?_⟩
        by_cases e : b = m
        · subst e; exact absurd hx hb
        · exact c2 b (by omega) hx
      · rintro ⟨c1, c2⟩
        exact ⟨c1, fun b hb2 hx => c2 b (by omega) hx⟩
  · rw [h2]
    constructor
    · rintro ⟨c1, c2⟩; exact ⟨c1, fun b hb2 hx => c2 b (by omega) hx⟩
    · rintro ⟨c1, c2⟩; exact ⟨c1, fun b hb2 hx => c2 b (by omega) hx⟩
theorem ym_agree20 {o v : Int} {G J : Int → Int} : zh_ok (zf_Matcher_agree_l2 o 0 G J zi_fu v 0) fun s => s = v := by
  refine zh_loop (F := fun n i (a : Int) => zf_Matcher_agree_l2 o 0 G J n a i) (N := 8) (I := fun _ a => a = v) (fun n i a i0 i1 hI k => ?_) 8 0 v zi_fu (by decide) (by decide) (by decide) (by decide) rfl
  show zh_ok (zf_Matcher_agree_l2_b o 0 G J (zf_Matcher_agree_l2 o 0 G J n) a i) _
  unfold zf_Matcher_agree_l2_b
  refine zh_ite (fun hi => ?_) fun _ => zh_ret hI
  rw [zi_w_id (x := i + 1) (by omega) (by omega), zb_bit0 i0 (by omega) (by rw [zb_0]; decide), if_pos rfl]
  exact k _ hi hI
theorem zv_up_id {g : Int → Int} {j : Int} : zv_up g j (g j) = g := by
  funext i
  unfold zv_up
  split
  · rename_i h; rw [h]
  · rfl
theorem ym_agree {K : (Int → Int) → Prop} {x1 x2 : Int} {nr G J : Int → Int} (h1 : 0 ≤ x1) (h2 : x1 ≤ 8) (hJ : ∀ i : Nat, i < 24 → z24 (J i))
    (hz : ∀ g, K g → ∀ j : Nat, j < 8 → zb x2 j = true → z24 (g (8 * x1 + j)))
    (hs : ∀ g (j : Nat) v, K g → j < 8 → zb x2 j = true → z24 v → (∀ q, zb v q = true ↔ zb (g (8 * x1 + j)) q = true ∧ ∀ b : Nat, b < 8 → zb (nr j) b = true → zb x2 b = true → ∃ r : Nat, r < 24 ∧ zb (g (8 * x1 + b)) r = true ∧ zb (J r) q = true) → K (zv_up g (8 * x1 + j) v))
    (hK : K G) : zh_ok (zf_Matcher_agree x1 x2 nr G J) fun o => K o.2 ∧ (o.1 = 1 ∨ (o.1 = 0 ∧ ∃ j : Nat, j < 8 ∧ zb x2 j = true ∧ K (zv_up o.2 (8 * x1 + j) 0))) := by
  unfold zf_Matcher_agree
  rw [zi_w_id (x := x1 * 8) (by omega) (by omega), show x1 * 8 = 8 * x1 from Int.mul_comm _ _]
  obtain ⟨o, eo⟩ : ∃ o, o = 8 * x1 := ⟨_, rfl⟩
  rw [← eo] at hz hs ⊢
  have o0 : 0 ≤ o := by omega
  have o1 : o ≤ 64 := by omega
  refine zh_sum (Q := fun q => match q with
    | .inl g => K g
    | .inr w => w.1 = 0 ∧ K w.2 ∧ ∃ j : Nat, j < 8 ∧ zb x2 j = true ∧ K (zv_up w.2 (o + j) 0)) (zh_loop (F := fun n i (a : Int × (Int → Int)) => zf_Matcher_agree_l0 x2 o nr J n a.1 i a.2) (N := 192) (I := fun _ a => K a.2) (fun n i a i0 i1 hI k => ?_) 192 0 (1, G) zi_fu (by decide) (by decide) (by decide) (by decide) hK) (fun g hg => zh_ret ⟨hg, .inl rfl⟩) fun w hw => zh_ret ⟨hw.2.1, .inr ⟨hw.1, hw.2.2⟩⟩
  show zh_ok (zf_Matcher_agree_l0_b x2 o nr J (zf_Matcher_agree_l0 x2 o nr J n) a.1 i a.2) _
  unfold zf_Matcher_agree_l0_b
  refine zh_ite (fun hi => ?_) fun _ => zh_ret hI
  rw [zi_w_id (x := i + 1) (by omega) (by omega)]
  refine zh_ite (fun _ => zh_ret hI) fun _ => zh_sum (Q := fun q => match q with
    | .inl a => K a.2
    | .inr w => w.1 = 0 ∧ K w.2 ∧ ∃ j : Nat, j < 8 ∧ zb x2 j = true ∧ K (zv_up w.2 (o + j) 0)) (zh_loop (F := fun n j (a : Int × (Int → Int)) => zf_Matcher_agree_l1 x2 o nr J n a.1 j a.2) (N := 8) (I := fun _ a => K a.2) (fun n j a j0 j1 hI k2 => ?_) 8 0 (0, a.2) zi_fu (by decide) (by decide) (by decide) (by decide) hI) (fun b hb => k (_, _) hi hb) fun b hb => zh_ret hb
  obtain ⟨c, g⟩ := a
  have hg : K g := hI
  show zh_ok (zf_Matcher_agree_l1_b x2 o nr J (zf_Matcher_agree_l1 x2 o nr J n) c j g) _
  unfold zf_Matcher_agree_l1_b
  refine zh_ite (fun hj => ?_) fun _ => zh_ret hI
  obtain ⟨m, rfl⟩ : ∃ m : Nat, j = m := ⟨j.toNat, by omega⟩
  rw [zi_w_id (x := (m : Int) + 1) (by omega) (by omega), zi_w_id (x := o + (m : Int)) (by omega) (by omega)]
  by_cases hb : zb x2 m = true
  · rw [zb_bit1 (t := x2) (i := (m : Int)) j0 (by omega) hb, if_neg (show ¬ (1 : Int) = 0 by decide), zl_ci j0 (by omega), zl_ci (a := o + (m : Int)) (by omega) (by omega)]
    refine zh_bind (ym_agree2 hJ o0 o1 (hz g hg m (by omega) hb)) fun s hs2 => ?_
    have hK2 : K (zv_up g (o + (m : Int)) s) := hs g m s hg (by omega) hb hs2.1 fun q => by
      rw [hs2.2]
      constructor
      · rintro ⟨c1, c2⟩
        exact ⟨c1, fun b b1 b2 b3 => c2 b b1 (by rw [zb_and, b2, b3]; rfl)⟩
      · rintro ⟨c1, c2⟩
        refine ⟨c1, fun b b1 b2 => ?_⟩
        rw [zb_and, Bool.and_eq_true] at b2
        exact c2 b b1 b2.1 b2.2
    have kk : ∀ c2, zh_ok (zf_Matcher_agree_l1 x2 o nr J n c2 ((m : Int) + 1) (zv_up g (o + (m : Int)) s)) _ := fun c2 => k2 (c2, _) hj hK2
    refine zh_ite (fun _ => zh_ite (fun _ => zh_ite (fun _ => kk _) fun _ => kk _) fun _ => kk _) fun _ => zh_ite (fun hz0 => zh_ret ⟨rfl, hg, m, by omega, hb, ?_⟩) fun _ => zh_ite (fun _ => zh_ite (fun _ => kk _) fun _ => kk _) fun _ => kk _
    rw [← hz0]; exact hK2
  · rw [zb_bit0 (t := x2) (i := (m : Int)) j0 (by omega) hb, if_pos rfl, zl_ci (a := o + (m : Int)) (by omega) (by omega)]
    refine zh_bind ym_agree20 fun s hs2 => ?_
    rw [hs2, zv_up_id]
    have kk : ∀ c2, zh_ok (zf_Matcher_agree_l1 x2 o nr J n c2 ((m : Int) + 1) g) _ := fun c2 => k2 (c2, _) hj hg
    exact zh_ite (fun _ => zh_ite (fun _ => kk _) fun _ => kk _) fun _ => kk _
/-- the rank of a name: fewest stars first, then most lines -/
def ym_rk (o : Int) (G nr : Int → Int) (b : Int) : Int := 8 * zs_sum (G (o + b)) 24 - zs_sum (nr b) 24
theorem ym_tightest {x1 x2 : Int} {G nr : Int → Int} (h1 : 0 ≤ x1) (h2 : x1 < 8) (hz : ∀ j : Nat, j < 8 → zb x2 j = true → z24 (G (8 * x1 + j))) (hn : ∀ j : Nat, j < 8 → z24 (nr j)) (hex : ∃ j : Nat, j < 8 ∧ zb x2 j = true) :
    zh_ok (zf_Matcher_tightest x1 x2 G nr) fun r => (0 ≤ r ∧ r < 8) ∧ zb x2 r.toNat = true ∧ ∀ j : Nat, j < 8 → zb x2 j = true → ym_rk (8 * x1) G nr r ≤ ym_rk (8 * x1) G nr j := by
  obtain ⟨o, eo⟩ : ∃ o, o = 8 * x1 := ⟨_, rfl⟩
  rw [← eo] at hz ⊢
  refine zh_bind (Q := fun r => (0 ≤ r ∧ r < 8) ∧ zb x2 r.toNat = true ∧ ∀ j : Nat, j < 8 → zb x2 j = true → ym_rk o G nr r ≤ ym_rk o G nr j) (zh_loop (F := fun n i (a : Int × Int) => zf_Matcher_tightest_l0 x1 x2 G nr n a.1 a.2 i) (N := 8) (I := fun i a => (a.2 = 200 ∧ ∀ j : Nat, (j : Int) < i → ¬ zb x2 j = true) ∨ ((0 ≤ a.1 ∧ a.1 < 8) ∧ zb x2 a.1.toNat = true ∧ a.2 = ym_rk o G nr a.1 ∧ ∀ j : Nat, (j : Int) < i → zb x2 j = true → ym_rk o G nr a.1 ≤ ym_rk o G nr j)) (fun n i a i0 i1 hI k => ?_) 8 0 (0, 200) zi_fu (by decide) (by decide) (by decide) (by decide) (.inl ⟨rfl, fun j hj => by omega⟩)) fun r hr => zh_ret hr
  show zh_ok (zf_Matcher_tightest_l0_b x1 x2 G nr (zf_Matcher_tightest_l0 x1 x2 G nr n) a.1 a.2 i) _
  unfold zf_Matcher_tightest_l0_b
  refine zh_ite (fun hi => ?_) fun _ => ?_
  · obtain ⟨m, rfl⟩ : ∃ m : Nat, i = m := ⟨i.toNat, by omega⟩
    rw [zi_w_id (x := (m : Int) + 1) (by omega) (by omega), zi_w_id (x := x1 * 8) (by omega) (by omega), show x1 * 8 = o by omega, zi_w_id (x := o + (m : Int)) (by omega) (by omega)]
    by_cases hb : zb x2 m = true
    · rw [zb_bit1 (t := x2) (i := (m : Int)) i0 (by omega) hb, if_neg (show ¬ (1 : Int) = 0 by decide), zl_ci (a := o + (m : Int)) (by omega) (by omega), ze_bc (hz m (by omega) hb), zl_b, zl_ci i0 (by omega), ze_bc (hn m (by omega)), zl_b]
      have s1 := zs_sum_in (t := G (o + (m : Int))) 24
      have s2 := zs_sum_in (t := nr (m : Int)) 24
      have er : ym_rk o G nr m = 8 * zs_sum (G (o + (m : Int))) 24 - zs_sum (nr (m : Int)) 24 := rfl
      rw [zi_w_id (x := 8 * zs_sum (G (o + (m : Int))) 24) (by omega) (by omega), zi_w_id (x := 8 * zs_sum (G (o + (m : Int))) 24 - zs_sum (nr (m : Int)) 24) (by omega) (by omega), ← er]
      have er2 : ym_rk o G nr m ≤ 192 := by omega
      refine zh_ite (fun hlt => k (_, _) hi (.inr ⟨⟨i0, hi⟩, hb, rfl, fun j hj hj2 => ?_⟩)) fun hge => k a hi ?_
      · by_cases e : j = m
        · subst e; exact Int.le_refl _
        · rcases hI with ⟨q1, q2⟩ | ⟨q1, q2, q3, q4⟩
          · exact absurd hj2 (q2 j (by omega))
          · have := q4 j (by omega) hj2
            show ym_rk o G nr m ≤ _
            omega
      · rcases hI with ⟨q1, q2⟩ | ⟨q1, q2, q3, q4⟩
        · omega
        · refine .inr ⟨q1, q2, q3, fun j hj hj2 => ?_⟩
          by_cases e : j = m
          · subst e; omega
          · exact q4 j (by omega) hj2
    · rw [zb_bit0 (t := x2) (i := (m : Int)) i0 (by omega) hb, if_pos rfl]
      refine k a hi ?_
      rcases hI with ⟨q1, q2⟩ | ⟨q1, q2, q3, q4⟩
      · refine .inl ⟨q1, fun j hj => ?_⟩
        by_cases e : j = m
        · subst e; exact hb
        · exact q2 j (by omega)
      · refine .inr ⟨q1, q2, q3, fun j hj hj2 => ?_⟩
        by_cases e : j = m
        · subst e; exact absurd hj2 hb
        · exact q4 j (by omega) hj2
  · rcases hI with ⟨q1, q2⟩ | ⟨q1, q2, q3, q4⟩
    · obtain ⟨j, j1, j2⟩ := hex
      exact absurd j2 (q2 j (by omega))
    · exact zh_ret ⟨q1, q2, fun j hj => q4 j (by omega)⟩
/-! what a search begins with -/
theorem ym_withLegs {z x2 : Int} {J : Int → Int} (hJ : ∀ i : Nat, i < 24 → z24 (J i)) : zh_ok (zf_Matcher_withLegs z x2 J) fun s => z24 s ∧ ∀ q, zb s q = (decide (q < 24) && (zb z q && decide (x2 ≤ zs_sum (zi_and (J q) z) 24))) := by
  refine zh_bind (Q := fun s => z24 s ∧ ∀ q, zb s q = (decide (q < 24) && (zb z q && decide (x2 ≤ zs_sum (zi_and (J q) z) 24)))) (zh_loop (F := fun n i (a : Int) => zf_Matcher_withLegs_l0 z x2 J n a i) (N := 24) (I := fun i a => z24 a ∧ ∀ q, zb a q = (decide (q < i.toNat) && (zb z q && decide (x2 ≤ zs_sum (zi_and (J q) z) 24)))) (fun n i a i0 i1 hI k => ?_) 24 0 0 zi_fu (by decide) (by decide) (by decide) (by decide) ⟨z24_0, fun q => by rw [zb_0, decide_eq_false (show ¬ q < Int.toNat 0 from Nat.not_lt_zero q), Bool.false_and]⟩) fun o ho => zh_ret ho
  obtain ⟨h1, h2⟩ := hI
  show zh_ok (zf_Matcher_withLegs_l0_b z x2 J (zf_Matcher_withLegs_l0 z x2 J n) a i) _
  unfold zf_Matcher_withLegs_l0_b
  obtain ⟨m, rfl⟩ : ∃ m : Nat, i = m := ⟨i.toNat, by omega⟩
  have h2 : ∀ q, zb a q = (decide (q < m) && (zb z q && decide (x2 ≤ zs_sum (zi_and (J q) z) 24))) := h2
  refine zh_ite (fun hi => ?_) fun hi => zh_ret ⟨h1, fun q => by rw [h2, show m = 24 by omega]⟩
  have hm : m < 24 := by omega
  have grow := zb_grow (s := a) (i := (m : Int)) (n := m) (P := fun q => (zb z q && decide (x2 ≤ zs_sum (zi_and (J q) z) 24))) rfl hm h2
  have e1 : ((m : Int) + 1).toNat = m + 1 := by omega
  rw [zi_w_id (x := (m : Int) + 1) (by omega) (by omega)]
  have kk : ∀ a', z24 a' → (∀ q, zb a' q = (decide (q < m + 1) && (zb z q && decide (x2 ≤ zs_sum (zi_and (J q) z) 24)))) → zh_ok (zf_Matcher_withLegs_l0 z x2 J n a' ((m : Int) + 1)) _ := fun a' q1 q2 => k a' hi ⟨q1, by rw [e1]; exact q2⟩
  by_cases hb : zb z m = true
  · rw [zb_bit1 (t := z) (i := (m : Int)) i0 (by omega) hb, if_neg (show ¬ (1 : Int) = 0 by decide), zl_ci i0 (by omega), ze_bc (z24_and (hJ m hm)), zl_b]
    refine zh_ite (fun hlt => ?_) fun hge => ?_
    · rw [if_neg (by show ¬ (zb z m && decide (x2 ≤ zs_sum (zi_and (J m) z) 24)) = true; rw [decide_eq_false (by omega), Bool.and_false]; decide)] at grow
      exact kk _ h1 grow
    · rw [if_pos (by show (zb z m && decide (x2 ≤ zs_sum (zi_and (J m) z) 24)) = true; rw [decide_eq_true (by omega), hb]; rfl)] at grow
      exact kk _ (z24_or h1 (z24_shl i0 hi)) grow
  · rw [zb_bit0 (t := z) (i := (m : Int)) i0 (by omega) hb, if_pos rfl]
    rw [if_neg (by show ¬ (zb z m && decide (x2 ≤ zs_sum (zi_and (J m) z) 24)) = true; rw [Bool.eq_false_iff.mpr hb, Bool.false_and]; decide)] at grow
    exact kk _ h1 grow
def ym_tw (z : Int) (J : Int → Int) (p q : Nat) : Prop := zb z p = true ∧ zb z q = true ∧ ∀ x : Nat, x < 24 → zb z x = true → x ≠ p → x ≠ q → zb (J p) x = zb (J q) x
theorem ym_tw_s {z : Int} {J : Int → Int} {p q : Nat} (h : ym_tw z J p q) : ym_tw z J q p := ⟨h.2.1, h.1, fun x x1 x2 x3 x4 => (h.2.2 x x1 x2 x4 x3).symm⟩
theorem ym_tc {z : Int} {J : Int → Int} {i j : Nat} (hi : i < 24) (hj : j < 24) (hJ : ∀ i : Nat, i < 24 → z24 (J i)) : zi_and (zi_and (zi_xor (J i) (J j)) z) (zi_xor (zi_or (zi_shl 1 i) (zi_shl 1 j)) (-1)) = 0 ↔ ∀ x : Nat, x < 24 → zb z x = true → x ≠ i → x ≠ j → zb (J i) x = zb (J j) x := by
  rw [z24_z (z24_and (z24_and (z24_xor (hJ i hi) (hJ j hj))))]
  have e : ∀ x : Nat, x < 24 → zb (zi_and (zi_and (zi_xor (J i) (J j)) z) (zi_xor (zi_or (zi_shl 1 i) (zi_shl 1 j)) (-1))) x = (((zb (J i) x ^^ zb (J j) x) && zb z x) && !(decide (x = i) || decide (x = j))) := fun x hx => by
    rw [zb_and, zb_and, zb_xor, zb_not (by omega), zb_or, zb_shl (by omega) (by omega), zb_shl (by omega) (by omega)]
    rfl
  constructor
  · intro h x hx zx xi xj
    have q := h x hx
    rw [e x hx, zx, decide_eq_false xi, decide_eq_false xj] at q
    cases a : zb (J i) x <;> cases b : zb (J j) x <;> rw [a, b] at q <;> first | rfl | exact absurd q (by decide)
  · intro h x hx
    rw [e x hx]
    by_cases zx : zb z x = true
    · by_cases xi : x = i
      · rw [decide_eq_true xi, Bool.true_or, Bool.not_true, Bool.and_false]
      · by_cases xj : x = j
        · rw [decide_eq_true xj, Bool.or_true, Bool.not_true, Bool.and_false]
        · rw [h x hx zx xi xj, Bool.xor_self, Bool.false_and, Bool.false_and]
    · rw [Bool.eq_false_iff.mpr zx, Bool.and_false, Bool.false_and]
end
section
/-! What a search begins with: rows and twins. -/
/-- twins, as far as they are noted: of the stars below i, and of i as far as m -/
def ym_ti (z : Int) (J T : Int → Int) (i m : Nat) : Prop :=
  (∀ p : Nat, p < i → ∀ q, zb (T p) q = true ↔ (q < i ∧ (q = p ∨ ym_tw z J p q)) ∨ (q = i ∧ p < m ∧ ym_tw z J p i)) ∧ ∀ q, zb (T i) q = true ↔ q = i ∨ (q < m ∧ ym_tw z J i q)
theorem ym_begin_l2 {z : Int} {J : Int → Int} (hJ : ∀ i : Nat, i < 24 → z24 (J i)) {i : Nat} (hi : i < 24) {T : Int → Int} (hT : ym_ti z J T i 0) : zh_ok (zf_Matcher_begin_24_l2 z i J zi_fu 0 T) fun T' => ym_ti z J T' i i := by
  refine zh_loop (F := fun n j (a : Int → Int) => zf_Matcher_begin_24_l2 z i J n j a) (N := (i : Int)) (I := fun j a => ym_ti z J a i j.toNat) (fun n j a j0 j1 hI k => ?_) 24 0 T zi_fu (by omega) (by decide) (by omega) (by decide) hT
  show zh_ok (zf_Matcher_begin_24_l2_b z i J (zf_Matcher_begin_24_l2 z i J n) j a) _
  unfold zf_Matcher_begin_24_l2_b
  obtain ⟨m, rfl⟩ : ∃ m : Nat, j = m := ⟨j.toNat, by omega⟩
  have hI : ym_ti z J a i m := hI
  refine zh_ite (fun hj => ?_) fun hj => zh_ret (by rw [show m = i by omega] at hI; exact hI)
  have hm : m < i := by omega
  obtain ⟨h1, h2⟩ := id hI
  by_cases hz : zb z i = true
  · rw [zb_bit1 (t := z) (i := (i : Int)) (by omega) (by omega) hz, if_neg (show ¬ (1 : Int) = 0 by decide), zl_ci (a := (i : Int)) (by omega) (by omega), zl_ci j0 (by omega), zi_w_id (x := (m : Int) + 1) (by omega) (by omega)]
    have e1 : ((m : Int) + 1).toNat = m + 1 := by omega
    have kk : ∀ a', ym_ti z J a' i (m + 1) → zh_ok (zf_Matcher_begin_24_l2 z i J n ((m : Int) + 1) a') _ := fun a' q => k a' hj (by rw [e1]; exact q)
    have no : ¬ ym_tw z J i m → ym_ti z J a i (m + 1) := fun hno => ⟨fun p hp q => by
      rw [h1 p hp q]
      constructor
      · rintro (h | ⟨h3, h4, h5⟩)
        · exact .inl h
        · exact .inr ⟨h3, by omega, h5⟩
      · rintro (h | ⟨h3, h4, h5⟩)
        · exact .inl h
        · refine .inr ⟨h3, ?_, h5⟩
          by_cases e : p = m
          · subst e; exact absurd (ym_tw_s h5) hno
          · omega, fun q => by
      rw [h2 q]
      constructor
      · rintro (h | ⟨h3, h4⟩)
        · exact .inl h
        · exact .inr ⟨by omega, h4⟩
      · rintro (h | ⟨h3, h4⟩)
        · exact .inl h
        · refine .inr ⟨?_, h4⟩
          by_cases e : q = m
          · subst e; exact absurd h4 hno
          · omega⟩
    refine zh_ite (fun hc => ?_) fun hc => kk _ (no fun w => hc ((ym_tc hi (by omega) hJ).mpr w.2.2))
    by_cases hzm : zb z m = true
    · rw [zb_bit1 (t := z) (i := (m : Int)) j0 (by omega) hzm, if_neg (show ¬ (1 : Int) = 0 by decide)]
      have htw : ym_tw z J i m := ⟨hz, hzm, (ym_tc hi (by omega) hJ).mp hc⟩
      rw [zv_up_n (show (m : Int) ≠ (i : Int) by omega)]
      refine kk _ ⟨fun p hp q => ?_, fun q => ?_⟩
      · by_cases e : p = m
        · subst e
          rw [zv_up_s, zb_or, Bool.or_eq_true, h1 p hp q, zb_shl (by omega) (by omega), decide_eq_true_iff, Int.toNat_natCast]
          constructor
          · rintro ((h | ⟨h3, h4, h5⟩) | h)
            · exact .inl h
            · omega
            · exact .inr ⟨h, by omega, ym_tw_s htw⟩
          · rintro (h | ⟨h3, h4, h5⟩)
            · exact .inl (.inl h)
            · exact .inr h3
        · rw [zv_up_n (by omega), zv_up_n (by omega), h1 p hp q]
          constructor
          · rintro (h | ⟨h3, h4, h5⟩)
            · exact .inl h
            · exact .inr ⟨h3, by omega, h5⟩
          · rintro (h | ⟨h3, h4, h5⟩)
            · exact .inl h
            · exact .inr ⟨h3, by omega, h5⟩
      · rw [zv_up_n (by omega), zv_up_s, zb_or, Bool.or_eq_true, h2 q, zb_shl (by omega) (by omega), decide_eq_true_iff, Int.toNat_natCast]
        constructor
        · rintro ((h | ⟨h3, h4⟩) | h)
          · exact .inl h
          · exact .inr ⟨by omega, h4⟩
          · exact .inr ⟨by omega, by rw [h]; exact htw⟩
        · rintro (h | ⟨h3, h4⟩)
          · exact .inl (.inl h)
          · by_cases e : q = m
            · exact .inr e
            · exact .inl (.inr ⟨by omega, h4⟩)
    · rw [zb_bit0 (t := z) (i := (m : Int)) j0 (by omega) hzm, if_pos rfl]
      exact kk _ (no fun w => hzm w.2.1)
  · rw [zb_bit0 (t := z) (i := (i : Int)) (by omega) (by omega) hz, if_pos rfl]
    refine zh_ret ⟨fun p hp q => ?_, fun q => ?_⟩
    · rw [h1 p hp q]
      constructor
      · rintro (h | ⟨h3, h4, h5⟩)
        · exact .inl h
        · exact absurd h5.2.1 hz
      · rintro (h | ⟨h3, h4, h5⟩)
        · exact .inl h
        · exact absurd h5.2.1 hz
    · rw [h2 q]
      constructor
      · rintro (h | ⟨h3, h4⟩)
        · exact .inl h
        · exact absurd h4.1 hz
      · rintro (h | ⟨h3, h4⟩)
        · exact .inl h
        · exact absurd h4.1 hz
theorem ym_begin {z f2 : Int} {J G nr T : Int → Int} (hJ : ∀ i : Nat, i < 24 → z24 (J i)) (hn : ∀ j : Nat, j < 8 → z24 (nr j)) :
    zh_ok (zf_Matcher_begin_24 z f2 J G nr T) fun o => o.1 = 0 ∧ (∀ b : Nat, b < 8 → z24 (o.2.1 b) ∧ ∀ q, zb (o.2.1 b) q = (decide (q < 24) && (zb z q && decide (zs_sum (nr b) 24 ≤ zs_sum (zi_and (J q) z) 24)))) ∧ ∀ p : Nat, p < 24 → ∀ q, zb (o.2.2 p) q = true ↔ q < 24 ∧ (q = p ∨ ym_tw z J p q) := by
  unfold zf_Matcher_begin_24
  refine zh_bind (Q := fun g => ∀ b : Nat, b < 8 → z24 (g b) ∧ ∀ q, zb (g b) q = (decide (q < 24) && (zb z q && decide (zs_sum (nr b) 24 ≤ zs_sum (zi_and (J q) z) 24)))) (zh_loop (F := fun n i (a : Int → Int) => zf_Matcher_begin_24_l0 z J nr n i a) (N := 8) (I := fun i g => ∀ b : Nat, (b : Int) < i → z24 (g b) ∧ ∀ q, zb (g b) q = (decide (q < 24) && (zb z q && decide (zs_sum (nr b) 24 ≤ zs_sum (zi_and (J q) z) 24)))) (fun n i a i0 i1 hI k => ?_) 8 0 G zi_fu (by decide) (by decide) (by decide) (by decide) fun b hb => by omega) fun g hg =>
    zh_bind (Q := fun t => ∀ p : Nat, p < 24 → ∀ q, zb (t p) q = true ↔ q < 24 ∧ (q = p ∨ ym_tw z J p q)) (zh_loop (F := fun n i (a : Int → Int) => zf_Matcher_begin_24_l1 z J n i a) (N := 24) (I := fun i t => ∀ p : Nat, (p : Int) < i → ∀ q : Nat, zb (t p) q = true ↔ (q : Int) < i ∧ (q = p ∨ ym_tw z J p q)) (fun n i a i0 i1 hI k => ?_) 24 0 T zi_fu (by decide) (by decide) (by decide) (by decide) fun p hp => by omega) fun t ht => zh_ret ⟨rfl, hg, ht⟩
  · show zh_ok (zf_Matcher_begin_24_l0_b z J nr (zf_Matcher_begin_24_l0 z J nr n) i a) _
    unfold zf_Matcher_begin_24_l0_b
    refine zh_ite (fun hi => ?_) fun hi => zh_ret fun b hb => hI b (by omega)
    obtain ⟨m, rfl⟩ : ∃ m : Nat, i = m := ⟨i.toNat, by omega⟩
    rw [zi_w_id (x := (m : Int) + 1) (by omega) (by omega), zl_ci (n := 8) i0 (by omega), ze_bc (hn m (by omega)), zl_b]
    refine zh_bind (ym_withLegs hJ) fun s hs => ?_
    rw [zl_ci i0 (by omega)]
    refine k _ hi fun b hb => ?_
    by_cases e : b = m
    · subst e; rw [zv_up_s]; exact hs
    · rw [zv_up_n (by omega)]; exact hI b (by omega)
  · show zh_ok (zf_Matcher_begin_24_l1_b z J (zf_Matcher_begin_24_l1 z J n) i a) _
    unfold zf_Matcher_begin_24_l1_b
    refine zh_ite (fun hi => ?_) fun hi => zh_ret fun p hp q => by
      rw [hI p (by omega) q]
      constructor
      · rintro ⟨h1, h2⟩; exact ⟨by omega, h2⟩
      · rintro ⟨h1, h2⟩; exact ⟨by omega, h2⟩
    obtain ⟨m, rfl⟩ : ∃ m : Nat, i = m := ⟨i.toNat, by omega⟩
    rw [zi_w_id (x := (m : Int) + 1) (by omega) (by omega), zl_ci i0 (by omega)]
    refine zh_bind (ym_begin_l2 hJ (by omega : m < 24) (T := zv_up a (m : Int) (zi_shl 1 (m : Int))) ⟨fun p hp q => ?_, fun q => ?_⟩) fun t ht => k t hi fun p hp q => ?_
    · rw [zv_up_n (by omega), hI p (by omega) q]
      constructor
      · rintro ⟨h1, h2⟩; exact .inl ⟨by omega, h2⟩
      · rintro (⟨h1, h2⟩ | ⟨h1, h2, h3⟩)
        · exact ⟨by omega, h2⟩
        · omega
    · rw [zv_up_s, zb_shl (by omega) (by omega), decide_eq_true_iff, Int.toNat_natCast]
      constructor
      · intro h; exact .inl h
      · rintro (h | ⟨h1, h2⟩)
        · exact h
        · omega
    · by_cases e : p = m
      · subst e
        rw [ht.2 q]
        constructor
        · rintro (h | ⟨h1, h2⟩)
          · exact ⟨by omega, .inl h⟩
          · exact ⟨by omega, .inr h2⟩
        · rintro ⟨h1, h | h⟩
          · exact .inl h
          · by_cases e2 : q = p
            · exact .inl e2
            · exact .inr ⟨by omega, h⟩
      · rw [ht.1 p (by omega) q]
        constructor
        · rintro (⟨h1, h2⟩ | ⟨h1, h2, h3⟩)
          · exact ⟨by omega, h2⟩
          · subst h1; exact ⟨by omega, .inr h3⟩
        · rintro ⟨h1, h2⟩
          by_cases e2 : q = m
          · subst e2
            rcases h2 with h2 | h2
            · omega
            · exact .inr ⟨rfl, by omega, h2⟩
          · exact .inl ⟨by omega, h2⟩
end
section
/-! What holds while names are settled. -/
def yc_N (nr : Int → Int) (a b : Nat) : Bool := (decide (a < 8) && decide (b < 8)) && zb (nr a) b
def yc_J (z : Int) (J : Int → Int) (i j : Nat) : Bool := (decide (i < 24) && decide (j < 24)) && ((zb z i && zb z j) && zb (J i) j)
def yc_R (G : Int → Int) (o : Int) (b j : Nat) : Bool := zb (G (o + b)) j
def ym_H (nr J : Int → Int) : Prop := (∀ a : Nat, a < 8 → z24 (nr a) ∧ zs_sum (nr a) 24 ≤ 7 ∧ zb (nr a) a = false) ∧ (∀ a b : Nat, a < 8 → b < 8 → zb (nr a) b = zb (nr b) a) ∧ (∀ i : Nat, i < 24 → z24 (J i) ∧ zb (J i) i = false) ∧ ∀ i j : Nat, i < 24 → j < 24 → zb (J i) j = zb (J j) i
section YCI
variable {z : Int} {nr J : Int → Int}
theorem yc_N_t {a b : Nat} : yc_N nr a b = true ↔ a < 8 ∧ b < 8 ∧ zb (nr a) b = true := by
  unfold yc_N
  rw [Bool.and_eq_true, Bool.and_eq_true, decide_eq_true_iff, decide_eq_true_iff]
  exact ⟨fun ⟨⟨p, q⟩, r⟩ => ⟨p, q, r⟩, fun ⟨p, q, r⟩ => ⟨⟨p, q⟩, r⟩⟩
theorem yc_J_t {i j : Nat} : yc_J z J i j = true ↔ i < 24 ∧ j < 24 ∧ zb z i = true ∧ zb z j = true ∧ zb (J i) j = true := by
  unfold yc_J
  rw [Bool.and_eq_true, Bool.and_eq_true, Bool.and_eq_true, Bool.and_eq_true, decide_eq_true_iff, decide_eq_true_iff]
  exact ⟨fun ⟨⟨p, q⟩, ⟨r, s⟩, t⟩ => ⟨p, q, r, s, t⟩, fun ⟨p, q, r, s, t⟩ => ⟨⟨p, q⟩, ⟨r, s⟩, t⟩⟩
theorem yc_N_s (H : ym_H nr J) (a b : Nat) : yc_N nr a b = yc_N nr b a := by
  rw [Bool.eq_iff_iff, yc_N_t, yc_N_t]
  constructor
  · rintro ⟨p, q, r⟩; exact ⟨q, p, by rw [← H.2.1 a b p q]; exact r⟩
  · rintro ⟨p, q, r⟩; exact ⟨q, p, by rw [← H.2.1 b a p q]; exact r⟩
theorem yc_J_s (H : ym_H nr J) (i j : Nat) : yc_J z J i j = yc_J z J j i := by
  rw [Bool.eq_iff_iff, yc_J_t, yc_J_t]
  constructor
  · rintro ⟨p, q, r, s, t⟩; exact ⟨q, p, s, r, by rw [← H.2.2.2 i j p q]; exact t⟩
  · rintro ⟨p, q, r, s, t⟩; exact ⟨q, p, s, r, by rw [← H.2.2.2 j i p q]; exact t⟩
theorem yc_J_x (H : ym_H nr J) (i : Nat) : yc_J z J i i = false := by
  rw [Bool.eq_false_iff]
  intro h
  obtain ⟨p, -, -, -, t⟩ := yc_J_t.mp h
  rw [(H.2.2.1 i p).2] at t
  cases t
theorem ym_nw_t {a i b q : Nat} {v : Int} (hv : z24 v) (hi : i < 24) : zb (ym_nw nr J a i v b) q = true ↔ zb v q = true ∧ q ≠ i ∧ (zb (nr a) b = true → zb (J i) q = true) := by
  by_cases hq : q < 24
  · rw [ym_nw_b (by omega) (by omega) hq]
    show (zb v q && (!decide (q = i) && (!zb (nr a) b || zb (J i) q))) = true ↔ _
    by_cases e : q = i
    · rw [decide_eq_true e, Bool.not_true, Bool.false_and, Bool.and_false]
      exact ⟨fun h => (by cases h), fun h => absurd e h.2.1⟩
    · rw [decide_eq_false e, Bool.not_false, Bool.true_and]
      cases zb v q <;> cases zb (nr a) b <;> cases zb (J i) q <;> simp [e]
  · rw [z24_b (ym_nw_24 hv) (by omega), z24_b hv (by omega)]
    exact ⟨fun h => (by cases h), fun h => (by cases h.1)⟩
def ym_I (z : Int) (J : Int → Int) (Fx : Nat → Prop) (sf : Nat → Nat) (U : Nat → Prop) (o x2 : Int) (G : Int → Int) : Prop :=
  (∀ b : Nat, b < 8 → zb x2 b = true → z24 (G (o + b)) ∧ ∀ j, zb (G (o + b)) j = true → zb z j = true ∧ ¬ U j) ∧
  (∀ b : Nat, b < 8 → zb x2 b = true → Fx b → ∀ j, zb (G (o + b)) j = true → j = sf b) ∧
  (∀ b : Nat, b < 8 → Fx b → zb x2 b = true ∨ U (sf b)) ∧
  ∀ b : Nat, b < 8 → zb x2 b = true → ¬ Fx b → ∀ p q : Nat, p < 24 → q < 24 → ym_tw z J p q → ¬ U p → ¬ U q → (∀ c : Nat, c < 8 → Fx c → sf c ≠ p ∧ sf c ≠ q) → zb (G (o + b)) p = true → zb (G (o + b)) q = true
variable {Fx : Nat → Prop} {sf : Nat → Nat} {U : Nat → Prop} {o x2 : Int} {G : Int → Int}
theorem ym_I_nw (H : ym_H nr J) (hI : ym_I z J Fx sf U o x2 G) {a i : Nat} (ha : a < 8) (hxa : zb x2 a = true) (hi : i < 24) (hra : zb (G (o + a)) i = true) {x6 : Int} (h6 : ∀ b : Nat, b < 8 → (zb x6 b = true ↔ zb x2 b = true ∧ b ≠ a)) {G1 : Int → Int} (hG : ∀ b : Nat, b < 8 → zb x6 b = true → G1 (o + 8 + b) = ym_nw nr J a i (G (o + b)) b) : ym_I z J Fx sf (fun j => U j ∨ j = i) (o + 8) x6 G1 := by
  obtain ⟨i1, i2, i3, i4⟩ := hI
  have hzi := (i1 a ha hxa).2 i hra
  refine ⟨fun b hb hx => ?_, fun b hb hx hf j hj => ?_, fun b hb hf => ?_, fun b hb hx hf p q hp hq ht hup huq hc hbp => ?_⟩
  · obtain ⟨x1, x3⟩ := (h6 b hb).mp hx
    obtain ⟨y1, y2⟩ := i1 b hb x1
    rw [hG b hb hx]
    refine ⟨ym_nw_24 y1, fun j hj => ?_⟩
    obtain ⟨q1, q2, -⟩ := (ym_nw_t y1 hi).mp hj
    exact ⟨(y2 j q1).1, fun w => w.elim (y2 j q1).2 q2⟩
  · obtain ⟨x1, x3⟩ := (h6 b hb).mp hx
    rw [hG b hb hx] at hj
    exact i2 b hb x1 hf j ((ym_nw_t (i1 b hb x1).1 hi).mp hj).1
  · rcases i3 b hb hf with h | h
    · by_cases e : b = a
      · subst e
        exact .inr (.inr (i2 b hb h hf i hra).symm)
      · exact .inl ((h6 b hb).mpr ⟨h, e⟩)
    · exact .inr (.inl h)
  · obtain ⟨x1, x3⟩ := (h6 b hb).mp hx
    obtain ⟨y1, y2⟩ := i1 b hb x1
    rw [hG b hb hx] at hbp ⊢
    obtain ⟨q1, q2, q3⟩ := (ym_nw_t y1 hi).mp hbp
    refine (ym_nw_t y1 hi).mpr ⟨i4 b hb x1 hf p q hp hq ht (fun w => hup (.inl w)) (fun w => huq (.inl w)) hc q1, fun w => huq (.inr w), fun w => ?_⟩
    have hip : i ≠ p := fun e => hup (.inr e.symm)
    have hiq : i ≠ q := fun e => huq (.inr e.symm)
    rw [H.2.2.2 i q hi hq, ← ht.2.2 i hi hzi.1 hip hiq, H.2.2.2 p i hp hi]
    exact q3 w
theorem ym_I_ag (H : ym_H nr J) (hI : ym_I z J Fx sf U o x2 G) {j : Nat} {v : Int} (hj : j < 8) (hxj : zb x2 j = true) (hv : z24 v) (hb : ∀ q, zb v q = true ↔ zb (G (o + j)) q = true ∧ ∀ b : Nat, b < 8 → zb (nr j) b = true → zb x2 b = true → ∃ r : Nat, r < 24 ∧ zb (G (o + b)) r = true ∧ zb (J r) q = true) :
    ym_I z J Fx sf U o x2 (zv_up G (o + j) v) ∧ yc (yc_N nr) (yc_J z J) (yc_ls (zb x2) 8) (yc_R (zv_up G (o + j) v) o) = yc (yc_N nr) (yc_J z J) (yc_ls (zb x2) 8) (yc_R G o) := by
  obtain ⟨i1, i2, i3, i4⟩ := hI
  have sub : ∀ b : Nat, ∀ q, zb (zv_up G (o + j) v (o + b)) q = true → zb (G (o + b)) q = true := fun b q hq => by
    by_cases e : b = j
    · subst e; rw [zv_up_s] at hq; exact ((hb q).mp hq).1
    · rwa [zv_up_n (by omega)] at hq
  refine ⟨⟨fun b hb1 hx => ⟨?_, fun q hq => (i1 b hb1 hx).2 q (sub b q hq)⟩, fun b hb1 hx hf q hq => i2 b hb1 hx hf q (sub b q hq), i3, fun b hb1 hx hf p q hp hq ht hup huq hc hbp => ?_⟩, ?_⟩
  · by_cases e : b = j
    · subst e; rw [zv_up_s]; exact hv
    · rw [zv_up_n (by omega)]; exact (i1 b hb1 hx).1
  · by_cases e : b = j
    · subst e
      rw [zv_up_s] at hbp ⊢
      obtain ⟨c1, c2⟩ := (hb p).mp hbp
      refine (hb q).mpr ⟨i4 b hb1 hx hf p q hp hq ht hup huq hc c1, fun d d1 d2 d3 => ?_⟩
      obtain ⟨r, r1, r2, r3⟩ := c2 d d1 d2 d3
      by_cases er : r = q
      · subst er
        by_cases hfd : Fx d
        · exact absurd (i2 d d1 d3 hfd r r2).symm (hc d d1 hfd).2
        · exact ⟨p, hp, i4 d d1 d3 hfd r p hq hp (ym_tw_s ht) huq hup (fun c c1 c2 => ⟨(hc c c1 c2).2, (hc c c1 c2).1⟩) r2, by rw [H.2.2.2 p r hp hq]; exact r3⟩
      · have erp : r ≠ p := fun e => by
          subst e
          rw [(H.2.2.1 r r1).2] at r3; cases r3
        refine ⟨r, r1, r2, ?_⟩
        rw [H.2.2.2 r q r1 hq, ← ht.2.2 r r1 ((i1 d d1 d3).2 r r2).1 erp er, H.2.2.2 p r hp r1]
        exact r3
    · rw [zv_up_n (by omega)] at hbp ⊢
      exact i4 b hb1 hx hf p q hp hq ht hup huq hc hbp
  · refine yc_prune (yc_N_s H) (yc_J_s H) yc_ls_nd (fun b _ q _ hq => sub b q hq) fun S hS b hbm => ?_
    show zb (zv_up G (o + j) v (o + b)) (S b) = true
    by_cases e : b = j
    · subst e
      rw [zv_up_s]
      refine (hb _).mpr ⟨(hS.1 b hbm).2, fun d d1 d2 d3 => ?_⟩
      have hd : d ∈ yc_ls (zb x2) 8 := yc_ls_mem.mpr ⟨d1, d3⟩
      have hdb : b ≠ d := fun e => by
        subst e
        rw [(H.1 b hj).2.2] at d2; cases d2
      have hw := (hS.2 b hbm d hd hdb).2 (yc_N_t.mpr ⟨hj, d1, d2⟩)
      obtain ⟨w1, w2, -, -, w5⟩ := yc_J_t.mp hw
      exact ⟨S d, w2, (hS.1 d hd).2, by rw [H.2.2.2 _ _ w2 w1]; exact w5⟩
    · rw [zv_up_n (by omega)]
      exact (hS.1 b hbm).2
theorem yc_empty {nr J row : Nat → Nat → Bool} (hn : ∀ a b, nr a b = nr b a) (hJ : ∀ i j, J i j = J j i) {ns : List Nat} (hd : ns.Nodup) {b : Nat} (hb : b ∈ ns) (h : ∀ j, j < 24 → row b j = false) : yc nr J ns row = 0 := by
  by_cases c : 0 < yc nr J ns row
  · obtain ⟨S, h1, -⟩ := yc_pos2 hn hJ hd c
    have := h1 b hb
    rw [h _ this.1] at this
    exact absurd this.2 (by decide)
  · omega
theorem yc_ls_0 {f : Nat → Bool} : ∀ {n : Nat}, (∀ b, b < n → f b = false) → yc_ls f n = []
  | 0, _ => rfl
  | n + 1, h => by
    show cond (f n) (n :: yc_ls f n) (yc_ls f n) = []
    rw [h n (Nat.lt_succ_self n)]
    exact yc_ls_0 fun b hb => h b (by omega)
theorem yc_w_mem {nr J row : Nat → Nat → Bool} {l l2 : List Nat} {S : Nat → Nat} (e : ∀ a, a ∈ l2 → a ∈ l) (h : yc_w nr J row l S) : yc_w nr J row l2 S :=
  ⟨fun a ha => h.1 a (e a ha), fun a ha b hb => h.2 a (e a ha) b (e b hb)⟩
theorem yc_cls {f t : Nat → Bool} {c : Nat → Nat} {c0 : Nat} : ∀ {n : Nat}, (∀ j, j < n → f j = true → t j = true → c j = c0) → ∃ L : Nat, (L : Int) = yn_n (fun j => f j && t j) n ∧ yc_sum (fun j => if f j = true then c j else 0) n = L * c0 + yc_sum (fun j => if (f j && !t j) = true then c j else 0) n
  | 0, _ => ⟨0, rfl, by show 0 = 0 * c0 + 0; omega⟩
  | n + 1, h => by
    obtain ⟨L, e1, e2⟩ := yc_cls (f := f) (t := t) (c := c) (c0 := c0) (n := n) fun j hj => h j (by omega)
    have hs : ∀ g : Nat → Nat, yc_sum g (n + 1) = yc_sum g n + g n := fun _ => rfl
    have hy : ∀ g : Nat → Bool, yn_n g (n + 1) = yn_n g n + (if g n = true then 1 else 0) := fun _ => rfl
    rw [hs, hs, hy, e2]
    by_cases a : f n = true
    · by_cases b : t n = true
      · refine ⟨L + 1, ?_, ?_⟩
        · rw [← e1, a, b, if_pos (by decide)]; omega
        · rw [if_pos a, a, b, if_neg (by decide), h n (Nat.lt_succ_self n) a b, Nat.add_mul, Nat.one_mul]; omega
      · refine ⟨L, ?_, ?_⟩
        · rw [← e1, a, Bool.eq_false_iff.mpr b, if_neg (by decide)]; omega
        · rw [if_pos a, a, Bool.eq_false_iff.mpr b, if_pos (by decide)]; omega
    · refine ⟨L, ?_, ?_⟩
      · rw [← e1, Bool.eq_false_iff.mpr a, Bool.false_and, if_neg (by decide)]; omega
      · rw [if_neg a, Bool.eq_false_iff.mpr a, Bool.false_and, if_neg (by decide)]; omega
theorem yn_one {f : Nat → Bool} {s : Nat} : ∀ n : Nat, (∀ j, j < n → f j = true → j = s) → yn_n f n ≤ 1 ∧ (n ≤ s → yn_n f n = 0)
  | 0, _ => ⟨show (0 : Int) ≤ 1 by decide, fun _ => rfl⟩
  | n + 1, h => by
    have ih := yn_one (f := f) (s := s) n fun j hj => h j (by omega)
    show yn_n f n + (if f n = true then 1 else 0) ≤ 1 ∧ (n + 1 ≤ s → yn_n f n + (if f n = true then 1 else 0) = 0)
    by_cases c : f n = true
    · have := h n (by omega) c
      rw [if_pos c]
      have := ih.2 (by omega)
      exact ⟨by omega, fun _ => by omega⟩
    · rw [if_neg c]
      exact ⟨by omega, fun w => by have := ih.2 (by omega); omega⟩
end YCI
end
section
/-! The matcher's search: it counts the ways, as far as it is asked to. -/
def ym_W (z : Int) (nr J : Int → Int) (o x2 : Int) (G S : Int → Int) : Prop := yc_w (yc_N nr) (yc_J z J) (yc_R G o) (yc_ls (zb x2) 8) (fun b => (S b).toNat) ∧ ∀ b : Nat, b < 8 → zb x2 b = true → 0 ≤ S b
def ym_C (z : Int) (nr J : Int → Int) (o x2 : Int) (G : Int → Int) : Nat := yc (yc_N nr) (yc_J z J) (yc_ls (zb x2) 8) (yc_R G o)
theorem yc_cons {nr J row : Nat → Nat → Bool} {a : Nat} {ns : List Nat} : yc nr J (a :: ns) row = yc_sum (fun i => if row a i = true then yc nr J ns (yc_nw nr J row a i) else 0) 24 := rfl
def ym_Vs (x5 : Int) (c : Nat → Nat) (v : Nat) : Prop := yc_sum (fun j => if zb x5 j = true then c j else 0) 24 = v
def ym_Cv (z : Int) (nr J : Int → Int) (o x2 : Int) (G : Int → Int) (v : Nat) : Prop := ym_C z nr J o x2 G = v
theorem ym_key {A B L1 L2 : Int} (h1 : 2 ≤ A) (h2 : B ≤ 1) (h3 : L1 ≤ 7) (h4 : 0 ≤ L2) (h5 : 8 * A - L1 ≤ 8 * B - L2) : False := by omega
theorem ym_class {x5 t : Int} {c : Nat → Nat} {m v : Nat} (z5 : z24 x5) (hm : m < 24) (hb : zb x5 m = true) (ht : zb t m = true) (hc : ∀ j, j < 24 → zb x5 j = true → zb t j = true → c j = c m) (hv : ym_Vs x5 c v) :
    ∃ Lk v' : Nat, zs_sum (zi_and x5 t) 24 = Lk ∧ 1 ≤ Lk ∧ Lk ≤ 24 ∧ v = Lk * c m + v' ∧ ym_Vs (zi_and x5 (zi_xor t (-1))) c v' := by
  obtain ⟨Lk, eL, eV⟩ := yc_cls (f := zb x5) (t := zb t) (c := c) (c0 := c m) (n := 24) hc
  have eL2 : zs_sum (zi_and x5 t) 24 = Lk := by
    rw [yn_sum (z24_and z5).1 (by have := (z24_and (b := t) z5).2; omega) 24, eL]
    exact yn_eq 24 fun j _ => by rw [zb_and]
  have l1 := yn_lt (f := fun _ => false) (g := fun j => zb x5 j && zb t j) (k := m) (by decide) (by rw [hb, ht]; rfl) 24 hm fun j _ h => (by cases h)
  have l0 := (yn_in (f := fun _ => false) 24).1
  have l2 := (yn_in (f := fun j => zb x5 j && zb t j) 24).2
  rw [← eL] at l1 l2
  have eV2 : yc_sum (fun j => if (zb x5 j && !zb t j) = true then c j else 0) 24 = yc_sum (fun j => if zb (zi_and x5 (zi_xor t (-1))) j = true then c j else 0) 24 := yc_sum_cg fun j hj => by rw [zb_and, zb_not (by omega)]
  rw [eV2, hv] at eV
  clear eL
  generalize yn_n (fun _ => false) 24 = q at l1 l0
  exact ⟨Lk, _, eL2, by clear eL2 eV eV2; omega, by clear eL2 eV eV2; omega, eV, rfl⟩
section YCS
variable {z : Int} {nr J T : Int → Int} {Fx : Nat → Prop} {sf : Nat → Nat}
/-- of twins that a name may be one does for all -/
theorem ym_same (H : ym_H nr J) {U : Nat → Prop} {o x2 x6 : Int} {G : Int → Int} (hI : ym_I z J Fx sf U o x2 G) {a : Nat} (ha : a < 8) (hxa : zb x2 a = true) (h6 : ∀ b : Nat, b < 8 → (zb x6 b = true ↔ zb x2 b = true ∧ b ≠ a)) (hmin : ∀ j : Nat, j < 8 → zb x2 j = true → ym_rk o G nr a ≤ ym_rk o G nr j) {p q : Nat} (hp : p < 24) (hq : q < 24) (hap : zb (G (o + a)) p = true) (haq : zb (G (o + a)) q = true) (ht : ym_tw z J p q) :
    yc (yc_N nr) (yc_J z J) (yc_ls (zb x6) 8) (yc_nw (yc_N nr) (yc_J z J) (yc_R G o) a q) = yc (yc_N nr) (yc_J z J) (yc_ls (zb x6) 8) (yc_nw (yc_N nr) (yc_J z J) (yc_R G o) a p) := by
  by_cases e : p = q
  · subst e; rfl
  obtain ⟨i1, i2, i3, i4⟩ := id hI
  have two : 2 ≤ yn_n (zb (G (o + a))) 24 := by
    have := yc_pig (S := id) (ns := [p, q]) (z := zb (G (o + a))) (by simp [e]) (fun b hb => by
      rcases List.mem_cons.mp hb with h | hb
      · subst h; exact ⟨hp, hap⟩
      · rcases List.mem_cons.mp hb with h | hb
        · subst h; exact ⟨hq, haq⟩
        · cases hb) fun b _ c _ hbc => hbc
    exact this
  have nofx : ∀ c : Nat, c < 8 → Fx c → ¬ zb x2 c = true := fun c c1 c2 c3 => by
    have one := (yn_one (f := zb (G (o + c))) (s := sf c) 24 fun j _ hj => i2 c c1 c3 c2 j hj).1
    have r := hmin c c1 c3
    have za := (i1 a ha hxa).1
    have zc := (i1 c c1 c3).1
    have n1 := (H.1 a ha).2.1
    have n2 := (zs_sum_in (t := nr (c : Int)) 24).1
    unfold ym_rk at r
    rw [yn_sum za.1 (by have := za.2; omega) 24, yn_sum zc.1 (by have := zc.2; omega) 24] at r
    exact ym_key two one n1 n2 r
  have us : ∀ c : Nat, c < 8 → Fx c → U (sf c) := fun c c1 c2 => (i3 c c1 c2).elim (fun w => absurd w (nofx c c1 c2)) id
  have np := ((i1 a ha hxa).2 p hap).2
  have nq := ((i1 a ha hxa).2 q haq).2
  have hsf : ∀ c : Nat, c < 8 → Fx c → sf c ≠ p ∧ sf c ≠ q := fun c c1 c2 => ⟨fun w => np (by rw [← w]; exact us c c1 c2), fun w => nq (by rw [← w]; exact us c c1 c2)⟩
  refine yc_twin (yc_J_s H) (yc_J_x H) hp hq (fun x hx xp xq => ?_) fun b hb => ?_
  · rw [Bool.eq_iff_iff, yc_J_t, yc_J_t]
    constructor
    · rintro ⟨q1, q2, q3, q4, q5⟩
      exact ⟨hq, q2, ht.2.1, q4, by rw [← ht.2.2 x hx q4 xp xq]; exact q5⟩
    · rintro ⟨q1, q2, q3, q4, q5⟩
      exact ⟨hp, q2, ht.1, q4, by rw [ht.2.2 x hx q4 xp xq]; exact q5⟩
  · obtain ⟨b1, b2⟩ := yc_ls_mem.mp hb
    obtain ⟨b3, b4⟩ := (h6 b b1).mp b2
    have nf : ¬ Fx b := fun w => nofx b b1 w b3
    show zb (G (o + b)) p = zb (G (o + b)) q
    rw [Bool.eq_iff_iff]
    exact ⟨i4 b b1 b3 nf p q hp hq ht np nq hsf, i4 b b1 b3 nf q p hq hp (ym_tw_s ht) nq np fun c c1 c2 => ⟨(hsf c c1 c2).2, (hsf c c1 c2).1⟩⟩
theorem ym_search (H : ym_H nr J) (hT : ∀ p : Nat, p < 24 → ∀ q, zb (T p) q = true ↔ q < 24 ∧ (q = p ∨ ym_tw z J p q)) : ∀ (n w : Nat) (x1 x2 x3 f2 : Int) (G S : Int → Int) (U : Nat → Prop), 0 ≤ x1 → x1 + yn_n (zb x2) 8 ≤ 8 → 8 - x1 < n → 1 ≤ x3 → x3 ≤ 10000 → z24 x2 → (∀ b, zb x2 b = true → b < 8) → ym_I z J Fx sf U (8 * x1) x2 G →
    zh_ok (zg_Matcher_search n w x1 x2 x3 f2 G nr T S J) fun o => o.1 = (if (ym_C z nr J (8 * x1) x2 G : Int) < x3 then (ym_C z nr J (8 * x1) x2 G : Int) else x3) ∧ (∀ q, q < 8 * x1 + 8 → o.2.2.1 q = G q) ∧ (∀ b : Nat, b < 8 → ¬ zb x2 b = true → o.2.2.2 b = S b) ∧ (x3 = 1 → 0 < o.1 → ym_W z nr J (8 * x1) x2 G o.2.2.2) := by
  intro n
  induction n with
  | zero => intro w x1 x2 x3 f2 G S U h1 h2 h3; have := (yn_in (f := zb x2) 8).1; omega
  | succ n ih =>
    intro w x1 x2 x3 f2 G S U h1 h2 h3 h4 h5 h6 h7 hI
    show zh_ok (zm_Matcher_search (zg_Matcher_search n) x1 x2 x3 f2 G nr T S J) _
    unfold zm_Matcher_search
    refine zh_ite (fun e0 => ?_) fun e0 => ?_
    · have el : yc_ls (zb x2) 8 = [] := yc_ls_0 fun b _ => by rw [e0]; exact zb_0
      have eC : ym_C z nr J (8 * x1) x2 G = 1 := by unfold ym_C; rw [el]; rfl
      refine zh_ret ⟨?_, fun _ _ => rfl, fun _ _ _ => rfl, fun _ _ => ⟨?_, fun b b1 b2 => ?_⟩⟩
      · rw [eC]
        show (1 : Int) = if ((1 : Nat) : Int) < x3 then ((1 : Nat) : Int) else x3
        split <;> omega
      · rw [el]; exact ⟨fun a ha => (by cases ha), fun a ha => (by cases ha)⟩
      · rw [e0, zb_0] at b2; cases b2
    obtain ⟨j0, j1, j2⟩ : ∃ j : Nat, j < 8 ∧ zb x2 j = true := by
      by_cases c : ∃ j : Nat, j < 24 ∧ zb x2 j = true
      · obtain ⟨j, _, j2⟩ := c; exact ⟨j, h7 j j2, j2⟩
      · exact absurd ((z24_z h6).mpr fun j hj => Bool.eq_false_iff.mpr fun w => c ⟨j, hj, w⟩) e0
    have h8 : x1 < 8 := by
      have l1 := yn_lt (f := fun _ => false) (g := zb x2) (k := j0) (by decide) j2 8 j1 fun j _ h => (by cases h)
      have l0 := (yn_in (f := fun _ => false) 8).1
      generalize yn_n (fun _ => false) 8 = q at l1 l0
      omega
    refine zh_ite (fun _ => ?_) fun w => absurd h8 w
    obtain ⟨i1, i2, i3, i4⟩ := id hI
    refine zh_bind (ym_tightest h1 h8 (fun j hj hx => (i1 j hj hx).1) (fun j hj => (H.1 j hj).1) ⟨j0, j1, j2⟩) fun r4 hr => ?_
    obtain ⟨⟨r0, r1⟩, hxa, hmin⟩ := hr
    obtain ⟨a, rfl⟩ : ∃ a : Nat, r4 = a := ⟨r4.toNat, by omega⟩
    have hxa : zb x2 a = true := hxa
    have ha : a < 8 := by omega
    rw [zi_w_id (x := x1 * 8) (by omega) (by omega), show x1 * 8 = 8 * x1 from Int.mul_comm _ _, zi_w_id (x := 8 * x1 + (a : Int)) (by omega) (by omega), zl_ci (a := 8 * x1 + (a : Int)) (by omega) (by omega)]
    obtain ⟨x6, e6⟩ : ∃ x6, x6 = zi_and x2 (zi_xor (zi_shl 1 (a : Int)) (-1)) := ⟨_, rfl⟩
    rw [← e6]
    have z6 : z24 x6 := by rw [e6]; exact z24_and h6
    have h66 : ∀ b : Nat, b < 24 → (zb x6 b = true ↔ zb x2 b = true ∧ b ≠ a) := fun b hb => by
      rw [e6, zb_clr (by omega) (by omega) hb, Bool.and_eq_true, Bool.not_eq_true', decide_eq_false_iff_not, Int.toNat_natCast]
    have h68 : ∀ b : Nat, b < 8 → (zb x6 b = true ↔ zb x2 b = true ∧ b ≠ a) := fun b hb => h66 b (by omega)
    have h6b : ∀ b, zb x6 b = true → b < 8 := fun b hb => by
      by_cases c : b < 24
      · exact h7 b ((h66 b c).mp hb).1
      · rw [z24_b z6 (by omega)] at hb; cases hb
    have hcnt : yn_n (zb x2) 8 = yn_n (zb x6) 8 + 1 := yn_add (k := a) (Bool.eq_false_iff.mpr fun w => ((h68 a ha).mp w).2 rfl) hxa 8 ha fun j hj hja => by
      rw [Bool.eq_iff_iff, h68 j hj]
      exact ⟨fun w => w.1, fun w => ⟨w, hja⟩⟩
    have h2n : x1 + 1 + yn_n (zb x6) 8 ≤ 8 := by
      rw [hcnt] at h2
      generalize yn_n (zb x6) 8 = q at h2 ⊢
      omega
    clear hcnt h2
    obtain ⟨o, eo⟩ : ∃ o, o = 8 * x1 := ⟨_, rfl⟩
    have eo2 : 8 * (x1 + 1) = o + 8 := by omega
    rw [← eo] at hI i1 i2 i4 hmin ⊢
    obtain ⟨c, ec⟩ : ∃ c : Nat → Nat, c = fun i => yc (yc_N nr) (yc_J z J) (yc_ls (zb x6) 8) (yc_nw (yc_N nr) (yc_J z J) (yc_R G o) a i) := ⟨_, rfl⟩
    have na : a ∉ yc_ls (zb x6) 8 := fun w => ((h68 a ha).mp (yc_ls_mem.mp w).2).2 rfl
    have lmem : ∀ b, b ∈ yc_ls (zb x2) 8 ↔ b ∈ a :: yc_ls (zb x6) 8 := fun b => by
      rw [List.mem_cons, yc_ls_mem, yc_ls_mem]
      constructor
      · rintro ⟨q1, q2⟩
        by_cases e : b = a
        · exact .inl e
        · exact .inr ⟨q1, (h68 b q1).mpr ⟨q2, e⟩⟩
      · rintro (e | ⟨q1, q2⟩)
        · subst e; exact ⟨ha, hxa⟩
        · exact ⟨q1, ((h68 b q1).mp q2).1⟩
    obtain ⟨C, eC⟩ : ∃ C, C = ym_C z nr J o x2 G := ⟨_, rfl⟩
    have hC : ym_Vs (G (o + a)) c C := by
      have e1 : ym_C z nr J o x2 G = yc (yc_N nr) (yc_J z J) (a :: yc_ls (zb x6) 8) (yc_R G o) := by
        unfold ym_C
        exact yc_set (yc_N_s H) (yc_J_s H) yc_ls_nd (List.nodup_cons.mpr ⟨na, yc_ls_nd⟩) lmem
      unfold ym_Vs
      rw [eC, e1, yc_cons, ec]
      exact yc_sum_cg fun i _ => rfl
    rw [← eC]
    clear eC
    have za := (i1 a ha hxa).1
    refine zh_bind (Q := fun q => ((q.1 = (C : Int) ∧ q.1 < x3) ∨ (x3 ≤ q.1 ∧ x3 ≤ (C : Int))) ∧ (∀ p, p < o + 8 → q.2.2.1 p = G p) ∧ (∀ b : Nat, b < 8 → ¬ zb x2 b = true → q.2.2.2 b = S b) ∧ (x3 = 1 → 0 < q.1 → ym_W z nr J o x2 G q.2.2.2))
      (zh_loop (F := fun n2 i (s : Int × Int × Int × (Int → Int) × (Int → Int)) => zm_Matcher_search_l0 (zg_Matcher_search n) x1 x3 (a : Int) x6 nr T J n2 s.1 s.2.1 i s.2.2.1 s.2.2.2.1 s.2.2.2.2) (N := 24)
        (I := fun i s => ((z24 s.1 ∧ ∀ j : Nat, zb s.1 j = true → zb (G (o + a)) j = true ∧ i ≤ (j : Int)) ∧ ∃ w v : Nat, ym_Vs s.1 c v ∧ C = w + v ∧ ((s.2.1 = w ∧ (w : Int) < x3) ∨ (x3 ≤ s.2.1 ∧ x3 ≤ (C : Int)))) ∧ (∀ p, p < o + 8 → s.2.2.2.1 p = G p) ∧ (∀ b : Nat, b < 8 → ¬ zb x2 b = true → s.2.2.2.2 b = S b) ∧ (x3 = 1 → 0 < s.2.1 → ym_W z nr J o x2 G s.2.2.2.2))
        (fun n2 i s i0 i24 hs k => ?_) 24 0 (G (o + a), 0, f2, G, S) zi_fu (by decide) (by decide) (by decide) (by decide) ⟨⟨⟨za, fun j hj => ⟨hj, Int.natCast_nonneg j⟩⟩, 0, C, hC, (Nat.zero_add C).symm, .inl ⟨rfl, show (0 : Int) < x3 by omega⟩⟩, fun _ _ => rfl, fun _ _ _ => rfl, fun _ w => absurd w (Int.lt_irrefl 0)⟩) fun q hq => ?_
    · obtain ⟨x5, x7, f, g, S2⟩ := s
      obtain ⟨⟨⟨z5, b5⟩, wn, vn, hv, ew, hw⟩, hg, hS, hW⟩ := hs
      have z5 : z24 x5 := z5
      have b5 : ∀ j : Nat, zb x5 j = true → zb (G (o + a)) j = true ∧ i ≤ (j : Int) := b5
      have hv : ym_Vs x5 c vn := hv
      have hw : (x7 = wn ∧ (wn : Int) < x3) ∨ (x3 ≤ x7 ∧ x3 ≤ (C : Int)) := hw
      have hg : ∀ p, p < o + 8 → g p = G p := hg
      have hS : ∀ b : Nat, b < 8 → ¬ zb x2 b = true → S2 b = S b := hS
      show zh_ok (zm_Matcher_search_l0_b (zg_Matcher_search n) x1 x3 (a : Int) x6 nr T J (zm_Matcher_search_l0 (zg_Matcher_search n) x1 x3 (a : Int) x6 nr T J n2) x5 x7 i f g S2) _
      unfold zm_Matcher_search_l0_b
      refine zh_ite (fun hi => ?_) fun hi => zh_ret ⟨?_, hg, hS, hW⟩
      · refine zh_ite (fun h73 => ?_) fun h73 => zh_ret ⟨.inr (hw.elim (fun w => absurd w.2 (by omega)) id), hg, hS, hW⟩
        obtain ⟨w1, w2⟩ : x7 = wn ∧ (wn : Int) < x3 := hw.elim id fun w => absurd w.1 (by omega)
        obtain ⟨m, rfl⟩ : ∃ m : Nat, i = m := ⟨i.toNat, by omega⟩
        have hm : m < 24 := by omega
        rw [zi_w_id (x := (m : Int) + 1) (by omega) (by omega)]
        by_cases hb : zb x5 m = true
        · rw [zb_bit1 (t := x5) (i := (m : Int)) i0 (by omega) hb, if_neg (show ¬ (1 : Int) = 0 by decide), zl_ci (n := 24) i0 (by omega), ze_bc (z24_and z5), zl_b, zl_ci (n := 8) (a := (a : Int)) (by omega) (by omega), zi_w_id (x := x1 + 1) (by omega) (by omega), zi_w_id (x := x3 - x7) (by omega) (by omega)]
          have ram := (b5 m hb).1
          have zm := (i1 a ha hxa).2 m ram
          -- the class of m
          obtain ⟨Lk, v', eL2, hL1, hL2, eV, hv'⟩ := ym_class z5 hm hb ((hT m hm m).mpr ⟨hm, .inl rfl⟩) (fun j hj q1 q2 => by
            rcases ((hT m hm j).mp q2).2 with e | e
            · rw [e]
            · rw [ec]
              exact ym_same H hI ha hxa h68 hmin hm hj ram (b5 j q1).1 e) hv
          rw [eL2]
          clear eL2
          obtain ⟨x5n, e5n⟩ : ∃ v, v = zi_and x5 (zi_xor (T (m : Int)) (-1)) := ⟨_, rfl⟩
          rw [← e5n] at hv' ⊢
          have z5n : z24 x5n := by rw [e5n]; exact z24_and z5
          have b5n : ∀ j : Nat, j < 24 → zb x5n j = (zb x5 j && !zb (T (m : Int)) j) := fun j hj => by rw [e5n, zb_and, zb_not (by omega)]
          have b5m : ∀ j : Nat, zb x5n j = true → zb (G (o + a)) j = true ∧ (m : Int) + 1 ≤ (j : Int) := fun j hj => by
            have hj24 : j < 24 := by
              by_cases e : j < 24
              · exact e
              · rw [z24_b z5n (by omega)] at hj; cases hj
            rw [b5n j hj24, Bool.and_eq_true, Bool.not_eq_true'] at hj
            have q := b5 j hj.1
            refine ⟨q.1, ?_⟩
            by_cases e : j = m
            · subst e
              have : zb (T (j : Int)) j = true := (hT j hm j).mpr ⟨hm, .inl rfl⟩
              rw [this] at hj; exact absurd hj.2 (by decide)
            · omega
          have hS3 : ∀ b : Nat, b < 8 → ¬ zb x2 b = true → zv_up S2 (a : Int) (m : Int) b = S b := fun b b1 b2 => by
            rw [zv_up_n (by
              intro e
              have : b = a := by omega
              subst this; exact b2 hxa)]
            exact hS b b1 b2
          -- a dead end
          have dead : c m = 0 → ∀ f' g', (∀ p, p < o + 8 → g' p = G p) → zh_ok (zm_Matcher_search_l0 (zg_Matcher_search n) x1 x3 (a : Int) x6 nr T J n2 x5n x7 ((m : Int) + 1) f' g' (zv_up S2 (a : Int) (m : Int))) _ := fun hc f' g' hg' => k (x5n, x7, f', g', zv_up S2 (a : Int) (m : Int)) hi ⟨⟨⟨z5n, b5m⟩, wn, v', hv', by rw [ew, eV, hc, Nat.mul_zero, Nat.zero_add], .inl ⟨w1, w2⟩⟩, hg', hS3, fun q1 q2 => by
            have q2 : 0 < x7 := q2
            omega⟩
          -- a way on
          have on : ∀ f' g', (∀ p, p < o + 8 → g' p = G p) → ym_I z J Fx sf (fun j => U j ∨ j = m) (o + 8) x6 g' → ym_Cv z nr J (o + 8) x6 g' (c m) → (∀ b : Nat, b < 8 → zb x6 b = true → ∀ j, zb (g' (o + 8 + b)) j = true → zb (ym_nw nr J a m (G (o + b)) b) j = true) →
              zh_ok ((zg_Matcher_search n 0 (x1 + 1) x6 (x3 - x7) f' g' nr T (zv_up S2 (a : Int) (m : Int)) J).bind fun r15 => (zm_Matcher_search_l0 (zg_Matcher_search n) x1 x3 (a : Int) x6 nr T J n2 x5n (zi_w (x7 + (zi_w ((Lk : Int) * r15.1)))) ((m : Int) + 1) r15.2.1 r15.2.2.1 r15.2.2.2)) _ := fun f' g' hg' hI' hC' hsub => by
            refine zh_bind (ih 0 (x1 + 1) x6 (x3 - x7) f' g' (zv_up S2 (a : Int) (m : Int)) (fun j => U j ∨ j = m) (by omega) h2n (by omega) (by omega) (by omega) z6 h6b (by rw [eo2]; exact hI')) fun r hr => ?_
            unfold ym_Cv at hC'
            rw [eo2, hC'] at hr
            clear hC'
            obtain ⟨q1, q2, q3, q4⟩ := hr
            have lo : 0 ≤ r.1 ∧ r.1 ≤ x3 - x7 := by
              rw [q1]; split <;> omega
            have hmul : (Lk : Int) * r.1 ≤ 24 * r.1 := Int.mul_le_mul_of_nonneg_right (by omega) lo.1
            have hmul0 : 0 ≤ (Lk : Int) * r.1 := Int.mul_nonneg (by omega) lo.1
            have hmul1 : r.1 ≤ (Lk : Int) * r.1 := by
              have := Int.mul_le_mul_of_nonneg_right (show (1 : Int) ≤ (Lk : Int) by omega) lo.1
              rwa [Int.one_mul] at this
            rw [zi_w_id (x := (Lk : Int) * r.1) (by omega) (by omega), zi_w_id (x := x7 + (Lk : Int) * r.1) (by omega) (by omega)]
            refine k (x5n, x7 + (Lk : Int) * r.1, r.2.1, r.2.2.1, r.2.2.2) hi ⟨⟨⟨z5n, b5m⟩, wn + Lk * c m, v', hv', by rw [ew, eV, Nat.add_assoc], ?_⟩, fun p hp => by rw [q2 p (by omega)]; exact hg' p hp, fun b b1 b2 => ?_, fun e1 e2 => ?_⟩
            · show (x7 + (Lk : Int) * r.1 = ((wn + Lk * c m : Nat) : Int) ∧ ((wn + Lk * c m : Nat) : Int) < x3) ∨ (x3 ≤ x7 + (Lk : Int) * r.1 ∧ x3 ≤ (C : Int))
              have eN : ((wn + Lk * c m : Nat) : Int) = (wn : Int) + (Lk : Int) * (c m : Int) := by rw [Int.natCast_add, Int.natCast_mul]
              have hCw : wn + Lk * c m ≤ C := by rw [ew, eV, ← Nat.add_assoc]; exact Nat.le_add_right _ _
              have hm2 : (c m : Int) ≤ (Lk : Int) * (c m : Int) := by
                have := Int.mul_le_mul_of_nonneg_right (show (1 : Int) ≤ (Lk : Int) by omega) (show (0 : Int) ≤ (c m : Int) by omega)
                rwa [Int.one_mul] at this
              by_cases cc : (c m : Int) < x3 - x7
              · rw [if_pos cc] at q1
                have e9 : x7 + (Lk : Int) * r.1 = ((wn + Lk * c m : Nat) : Int) := by rw [q1, w1, eN]
                by_cases c3 : ((wn + Lk * c m : Nat) : Int) < x3
                · exact .inl ⟨e9, c3⟩
                · exact .inr ⟨by rw [e9]; exact Int.not_lt.mp c3, Int.le_trans (Int.not_lt.mp c3) (Int.ofNat_le.mpr hCw)⟩
              · rw [if_neg cc] at q1
                refine .inr ⟨by omega, Int.le_trans ?_ (Int.ofNat_le.mpr hCw)⟩
                show x3 ≤ ((wn + Lk * c m : Nat) : Int)
                rw [eN]
                omega
            · show r.2.2.2 b = S b
              rw [q3 b b1 fun w => b2 ((h68 b b1).mp w).1]
              exact hS3 b b1 b2
            · have e2 : 0 < x7 + (Lk : Int) * r.1 := e2
              have r1 : 0 < r.1 := by
                by_cases z : r.1 = 0
                · rw [z, Int.mul_zero] at e2; omega
                · omega
              obtain ⟨W1, W2⟩ := q4 (by omega) r1
              show ym_W z nr J o x2 G r.2.2.2
              have ea : r.2.2.2 (a : Int) = (m : Int) := by
                rw [q3 a ha fun w => ((h68 a ha).mp w).2 rfl, zv_up_s]
              have eat : (r.2.2.2 ((a : Nat) : Int)).toNat = m := by rw [ea, Int.toNat_natCast]
              refine ⟨yc_w_mem (fun b hb => (lmem b).mp hb) ((yc_w_cons (yc_N_s H) (yc_J_s H) na).mpr ?_), fun b b1 b2 => ?_⟩
              · show (r.2.2.2 ((a : Nat) : Int)).toNat < 24 ∧ yc_R G o a (r.2.2.2 ((a : Nat) : Int)).toNat = true ∧ yc_w (yc_N nr) (yc_J z J) (yc_nw (yc_N nr) (yc_J z J) (yc_R G o) a (r.2.2.2 ((a : Nat) : Int)).toNat) (yc_ls (zb x6) 8) fun b => (r.2.2.2 b).toNat
                rw [eat]
                refine ⟨hm, ram, yc_w_row W1 fun b hb => ?_⟩
                obtain ⟨b1, b2⟩ := yc_ls_mem.mp hb
                have hrow := hsub b b1 b2 _ (W1.1 b hb).2
                have zrow := (i1 b b1 ((h68 b b1).mp b2).1)
                obtain ⟨p1, p2, p3⟩ := (ym_nw_t zrow.1 hm).mp hrow
                refine yc_nw_t.mpr ⟨p1, p2, fun w => yc_J_t.mpr ⟨hm, (W1.1 b hb).1, zm.1, (zrow.2 _ p1).1, p3 (yc_N_t.mp w).2.2⟩⟩
              · by_cases e : b = a
                · subst e; rw [ea]; omega
                · exact W2 b b1 ((h68 b b1).mpr ⟨b2, e⟩)
          -- narrow
          refine zh_bind (ym_narrow (x2 := x6) (G := g) (nr := nr) (J := J) h1 h8 r0 r1 i0 (by omega)) fun r12 h12 => ?_
          rw [← eo] at h12
          obtain ⟨n1, n2⟩ := h12
          have n1 : ∀ p, p < o + 8 → r12.2 p = G p := fun p hp => by rw [n1 p hp]; exact hg p hp
          have cell : ∀ b : Nat, b < 8 → g (o + (b : Int)) = G (o + (b : Int)) := fun b hb => hg _ (by omega)
          refine zh_ite (fun hz => ?_) fun hz => ?_
          · rcases n2 with ⟨q1, -⟩ | ⟨-, b, b0, b1, b2, b3⟩
            · rw [q1] at hz; exact absurd hz (by decide)
            · obtain ⟨b, rfl⟩ : ∃ b' : Nat, b = b' := ⟨b.toNat, by omega⟩
              have b2 : zb x6 b = true := b2
              have b1 : b < 8 := by omega
              rw [cell b b1] at b3
              refine dead ?_ _ _ n1
              rw [ec]
              refine yc_empty (yc_N_s H) (yc_J_s H) yc_ls_nd (yc_ls_mem.mpr ⟨b1, b2⟩) fun j hj => Bool.eq_false_iff.mpr fun w => ?_
              obtain ⟨p1, p2, p3⟩ := yc_nw_t.mp w
              have hj2 : zb (ym_nw nr J a m (G (o + b)) b) j = true := (ym_nw_t (i1 b b1 ((h68 b b1).mp b2).1).1 hm).mpr ⟨p1, p2, fun w => (yc_J_t.mp (p3 (yc_N_t.mpr ⟨ha, b1, w⟩))).2.2.2.2⟩
              rw [b3, zb_0] at hj2; cases hj2
          · rcases n2 with ⟨-, n2⟩ | ⟨q1, -⟩
            · have hG1 : ∀ b : Nat, b < 8 → zb x6 b = true → r12.2 (o + 8 + b) = ym_nw nr J a m (G (o + b)) b := fun b b1 b2 => by
                rw [n2 b (by omega) (by omega) b2, cell b b1]
              have hI1 : ym_I z J Fx sf (fun j => U j ∨ j = m) (o + 8) x6 r12.2 := ym_I_nw H hI ha hxa hm ram h68 hG1
              have hC1 : ym_Cv z nr J (o + 8) x6 r12.2 (c m) := by
                rw [ec]
                refine yc_cg fun b hb j hj => ?_
                obtain ⟨b1, b2⟩ := yc_ls_mem.mp hb
                have zrow := i1 b b1 ((h68 b b1).mp b2).1
                show zb (r12.2 (o + 8 + b)) j = _
                rw [hG1 b b1 b2, Bool.eq_iff_iff, ym_nw_t zrow.1 hm, yc_nw_t]
                constructor
                · rintro ⟨p1, p2, p3⟩
                  exact ⟨p1, p2, fun w => yc_J_t.mpr ⟨hm, hj, zm.1, (zrow.2 j p1).1, p3 (yc_N_t.mp w).2.2⟩⟩
                · rintro ⟨p1, p2, p3⟩
                  exact ⟨p1, p2, fun w => (yc_J_t.mp (p3 (yc_N_t.mpr ⟨ha, b1, w⟩))).2.2.2.2⟩
              have hsub1 : ∀ b : Nat, b < 8 → zb x6 b = true → ∀ j, zb (r12.2 (o + 8 + b)) j = true → zb (ym_nw nr J a m (G (o + b)) b) j = true := fun b b1 b2 j hj => by rwa [hG1 b b1 b2] at hj
              refine zh_ite (fun _ => on f r12.2 n1 hI1 hC1 hsub1) fun _ => ?_
              refine zh_bind (ym_agree (K := fun g' => (∀ p, p < o + 8 → g' p = G p) ∧ ym_I z J Fx sf (fun j => U j ∨ j = m) (o + 8) x6 g' ∧ ym_Cv z nr J (o + 8) x6 g' (c m) ∧ ∀ b : Nat, b < 8 → zb x6 b = true → ∀ j, zb (g' (o + 8 + b)) j = true → zb (ym_nw nr J a m (G (o + b)) b) j = true) (x1 := x1 + 1) (x2 := x6) (nr := nr) (G := r12.2) (J := J) (by omega) (by omega) (fun i hi => (H.2.2.1 i hi).1) (fun g' hK j hj hx => ?_) (fun g' j v hK hj hx hv hq => ?_) ⟨n1, hI1, hC1, hsub1⟩) fun r16 h16 => ?_
              · rw [eo2]; exact (hK.2.1.1 j hj hx).1
              · rw [eo2] at hq ⊢
                obtain ⟨K1, K2, K3, K4⟩ := hK
                obtain ⟨A1, A2⟩ := ym_I_ag H K2 hj hx hv hq
                refine ⟨fun p hp => by rw [zv_up_n (by omega)]; exact K1 p hp, A1, A2.trans K3, fun b b1 b2 j2 hj2 => ?_⟩
                by_cases e : b = j
                · subst e
                  rw [zv_up_s] at hj2
                  exact K4 b b1 b2 j2 ((hq j2).mp hj2).1
                · rw [zv_up_n (by omega)] at hj2
                  exact K4 b b1 b2 j2 hj2
              · obtain ⟨⟨K1, K2, K3, K4⟩, h16⟩ := h16
                refine zh_ite (fun hz2 => ?_) fun hz2 => on f r16.2 K1 K2 K3 K4
                rcases h16 with q1 | ⟨-, j, j1, j2, -, -, K5, -⟩
                · rw [q1] at hz2; exact absurd hz2 (by decide)
                · refine dead ?_ _ _ K1
                  rw [← show _ = c m from K5]
                  refine yc_empty (yc_N_s H) (yc_J_s H) yc_ls_nd (yc_ls_mem.mpr ⟨j1, j2⟩) fun q hq => ?_
                  show zb (zv_up r16.2 (8 * (x1 + 1) + (j : Int)) 0 (o + 8 + (j : Int))) q = false
                  rw [eo2, zv_up_s]; exact zb_0
            · exact absurd q1 hz
        · rw [zb_bit0 (t := x5) (i := (m : Int)) i0 (by omega) hb, if_pos rfl]
          refine k (x5, x7, f, g, S2) hi ⟨⟨⟨z5, fun j hj => ⟨(b5 j hj).1, ?_⟩⟩, wn, vn, hv, ew, hw⟩, hg, hS, hW⟩
          have := (b5 j hj).2
          by_cases e : j = m
          · subst e; exact absurd hj hb
          · omega
      · have ez : vn = 0 := by
          unfold ym_Vs at hv
          rw [yc_sum_cg (g := fun _ => 0) fun j hj => if_neg fun w => by have := (b5 j w).2; omega, yc_sum_0 24] at hv
          exact hv.symm
        clear hv
        rw [ez] at ew
        show ((x7 = (C : Int) ∧ x7 < x3) ∨ (x3 ≤ x7 ∧ x3 ≤ (C : Int)))
        rcases hw with ⟨w1, w2⟩ | w
        · exact .inl ⟨by omega, by omega⟩
        · exact .inr w
    · obtain ⟨q1, q2, q3, q4⟩ := hq
      rw [ze_Math_min, zl_b]
      refine zh_ret ⟨?_, q2, q3, fun e1 e2 => q4 e1 ?_⟩
      · show (if x3 < q.1 then x3 else q.1) = if (C : Int) < x3 then (C : Int) else x3
        rcases q1 with ⟨c1, c2⟩ | ⟨c1, c2⟩
        · rw [if_neg (by omega), if_pos (by omega), c1]
        · rw [if_neg (show ¬ (C : Int) < x3 by omega)]
          split <;> omega
      · have e2 : 0 < (if x3 < q.1 then x3 else q.1) := e2
        split at e2 <;> omega
end YCS
end
section
/-! The reference's ways: as many as maps; the first of them. -/
def ym_A (z : Int) (nr J : Int → Int) (ni : Int) : Nat := yc (yc_N nr) (yc_J z J) (yc_ls (zb ni) 8) (fun _ j => zb z j)
/-- a way by what is seen -/
def ym_Y (z : Int) (nr J : Int → Int) (ni : Int) (W : Nat → Nat) : Prop := yc_w (yc_N nr) (yc_J z J) (fun _ j => zb z j) (yc_ls (zb ni) 8) W
/-- the first of the ways -/
def ym_F (z : Int) (nr J : Int → Int) (ni : Int) (W : Nat → Nat) : Prop := ym_Y z nr J ni W ∧ ∀ b : Nat, b < 8 → zb ni b = true → ∀ V, ym_Y z nr J ni V → (∀ c : Nat, c < b → zb ni c = true → V c = W c) → W b ≤ V b
theorem ym_F_u {z : Int} {nr J : Int → Int} {ni : Int} {W V : Nat → Nat} (h1 : ym_F z nr J ni W) (h2 : ym_F z nr J ni V) : ∀ b : Nat, b < 8 → zb ni b = true → W b = V b := by
  intro b
  induction b using Nat.strongRecOn with
  | ind b ih =>
    intro b8 hb
    have l1 := h1.2 b b8 hb V h2.1 fun c c1 c2 => (ih c c1 (by omega) c2).symm
    have l2 := h2.2 b b8 hb W h1.1 fun c c1 c2 => ih c c1 (by omega) c2
    omega
def ym_nl (nm : Int → Int) : Nat → Int → List Nat
  | 0, _ => []
  | r + 1, q => (nm q).toNat :: ym_nl nm r (q + 1)
noncomputable def ym_pr (z : Int) (nr J nm S : Int → Int) (q : Int) (b j : Nat) : Bool := zb z j && @decide (∀ p, 0 ≤ p → p < q → S p ≠ (j : Int) ∧ (zb (nr (nm p)) b = true → zb (J j) (S p).toNat = true)) (Classical.propDecidable _)
theorem ym_pr_t {z : Int} {nr J nm S : Int → Int} {q : Int} {b j : Nat} : ym_pr z nr J nm S q b j = true ↔ zb z j = true ∧ ∀ p, 0 ≤ p → p < q → S p ≠ (j : Int) ∧ (zb (nr (nm p)) b = true → zb (J j) (S p).toNat = true) := by
  unfold ym_pr
  rw [Bool.and_eq_true, @decide_eq_true_iff _ (Classical.propDecidable _)]
theorem yw_ok_t {z n : Int} {fr nm to J S : Int → Int} {q s : Int} : yw_ok z n fr nm to J S q s = true ↔ zb z s.toNat = true ∧ yw_P n S fr nm to J q s := by
  unfold yw_ok
  rw [Bool.and_eq_true, @decide_eq_true_iff _ (Classical.propDecidable _)]
theorem yw_cat_len {α : Type} {f : Int → List α} : ∀ k : Nat, k ≤ 24 → (yw_cat f k).length + yc_sum (fun j => (f (j : Int)).length) (24 - k) = yc_sum (fun j => (f (j : Int)).length) 24
  | 0, _ => by show 0 + _ = _; rw [Nat.zero_add]
  | k + 1, hk => by
    have ih := yw_cat_len (f := f) k (by omega)
    have e : 24 - k = (24 - (k + 1)) + 1 := by omega
    rw [e] at ih
    have ih : (yw_cat f k).length + (yc_sum (fun j => (f (j : Int)).length) (24 - (k + 1)) + (f ((24 - (k + 1) : Nat) : Int)).length) = _ := ih
    show (f (23 - (k : Int)) ++ yw_cat f k).length + _ = _
    rw [List.length_append, show (23 - (k : Int)) = ((24 - (k + 1) : Nat) : Int) by omega]
    omega
theorem yw_cat_head {α : Type} {f : Int → List α} {X : α} : ∀ k : Nat, k ≤ 24 → (yw_cat f k).head? = some X → ∃ s : Int, 24 - (k : Int) ≤ s ∧ s < 24 ∧ (f s).head? = some X ∧ ∀ t : Int, 24 - (k : Int) ≤ t → t < s → f t = []
  | 0, _, h => (by cases h)
  | k + 1, hk, h => by
    have h : (f (23 - (k : Int)) ++ yw_cat f k).head? = some X := h
    cases e : f (23 - (k : Int)) with
    | nil =>
      rw [e] at h
      obtain ⟨s, s1, s2, s3, s4⟩ := yw_cat_head (f := f) k (by omega) h
      refine ⟨s, by omega, s2, s3, fun t t1 t2 => ?_⟩
      by_cases w : t = 23 - (k : Int)
      · rw [w]; exact e
      · exact s4 t (by omega) t2
    | cons x l =>
      rw [e] at h
      exact ⟨23 - (k : Int), by omega, by omega, by rw [e]; exact h, fun t t1 t2 => by omega⟩
theorem yw_cat_ne {α : Type} {f : Int → List α} {s : Int} (hs : f s ≠ []) : ∀ k : Nat, k ≤ 24 → 24 - (k : Int) ≤ s → s < 24 → yw_cat f k ≠ []
  | 0, _, h, h2 => by omega
  | k + 1, hk, h, h2 => by
    show f (23 - (k : Int)) ++ yw_cat f k ≠ []
    intro w
    obtain ⟨w1, w2⟩ := List.append_eq_nil_iff.mp w
    by_cases e : s = 23 - (k : Int)
    · rw [← e] at w1; exact hs w1
    · exact yw_cat_ne hs k (by omega) (by omega) h2 w2
section YCR
variable {n ni z Nn : Int} {fr nm to J nr : Int → Int}
theorem yk_tl_H (tl : yk_tl n ni nr fr to) (hJ : ∀ i : Nat, i < 24 → z24 (J i) ∧ zb (J i) i = false) (hs : ∀ i j : Nat, i < 24 → j < 24 → zb (J i) j = zb (J j) i) : ym_H nr J ∧ ∀ a : Nat, a < 8 → ∀ b, zb (nr a) b = true → b < 8 ∧ zb ni b = true := by
  obtain ⟨-, hft, -, hz, hb, hn⟩ := tl
  have ln : ∀ a : Nat, a < 8 → ∀ b, zb (nr a) b = true → b < 8 ∧ zb ni b = true ∧ b ≠ a := fun a ha b h => by
    obtain ⟨i, i0, i1, hi⟩ := ((hn a (by omega) (by omega)).2 b).mp h
    obtain ⟨⟨a1, a2⟩, ⟨b1, b2⟩, ne⟩ := hft i i0 i1
    refine ⟨by rcases hi with hi | hi <;> omega, (hb b).mpr ⟨i, i0, i1, ?_⟩, fun e => ?_⟩
    · rcases hi with hi | hi
      · exact .inr hi.2
      · exact .inl hi.1
    · rcases hi with hi | hi <;> omega
  refine ⟨⟨fun a ha => ⟨(hn a (by omega) (by omega)).1, ?_, Bool.eq_false_iff.mpr fun w => (ln a ha a w).2.2 rfl⟩, fun a b ha hb2 => ?_, hJ, hs⟩, fun a ha b h => ⟨(ln a ha b h).1, (ln a ha b h).2.1⟩⟩
  · have hz2 := (hn a (by omega) (by omega)).1
    rw [yn_sum hz2.1 (by have := hz2.2; omega) 24]
    have l := yn_lt (f := zb (nr a)) (g := fun b => decide (b < 8)) (k := a) (fun w => (ln a ha a w).2.2 rfl) (decide_eq_true ha) 24 (by omega) fun j _ hj => decide_eq_true (ln a ha j hj).1
    have e : yn_n (fun b => decide (b < 8)) 24 = 8 := by decide
    omega
  · rw [Bool.eq_iff_iff, (hn a (by omega) (by omega)).2 b, (hn b (by omega) (by omega)).2 a]
    constructor
    · rintro ⟨i, i0, i1, hi⟩; exact ⟨i, i0, i1, hi.elim (fun w => .inr w) fun w => .inl w⟩
    · rintro ⟨i, i0, i1, hi⟩; exact ⟨i, i0, i1, hi.elim (fun w => .inr w) fun w => .inl w⟩
theorem yt_ln_b (tl : yk_tl n ni nr fr to) {a b : Int} (a0 : 0 ≤ a) (a1 : a < 8) (b0 : 0 ≤ b) : yt_ln n fr to a b ↔ zb (nr a) b.toNat = true := by
  rw [(tl.2.2.2.2.2 a a0 a1).2 b.toNat, Int.toNat_of_nonneg b0]
theorem yw_L_len (tl : yk_tl n ni nr fr to) (hn : yw_nmz ni Nn nm) (H : ym_H nr J) : ∀ (r : Nat) (q : Int) (S : Int → Int), q + r = Nn → 0 ≤ q → (∀ p, 0 ≤ p → p < q → 0 ≤ S p ∧ S p ≤ 23) →
    (yw_L (yw_ok z n fr nm to J) r q S).length = yc (yc_N nr) (yc_J z J) (ym_nl nm r q) (ym_pr z nr J nm S q) := by
  obtain ⟨⟨m0, m1⟩, hinc, hrg, -⟩ := id hn
  intro r
  induction r with
  | zero => intro q S _ _ _; rfl
  | succ r ih =>
    intro q S hq q0 hS
    obtain ⟨r1, r2, r3⟩ := hrg q q0 (by omega)
    obtain ⟨a, ha⟩ : ∃ a : Nat, nm q = a := ⟨(nm q).toNat, by omega⟩
    have len := yw_cat_len (f := fun s => cond (yw_ok z n fr nm to J S q s) (yw_L (yw_ok z n fr nm to J) r (q + 1) (zv_up S q s)) []) 24 (Nat.le_refl _)
    show (yw_cat (fun s => cond (yw_ok z n fr nm to J S q s) (yw_L (yw_ok z n fr nm to J) r (q + 1) (zv_up S q s)) []) 24).length = yc_sum (fun i => if ym_pr z nr J nm S q (nm q).toNat i = true then yc (yc_N nr) (yc_J z J) (ym_nl nm r (q + 1)) (yc_nw (yc_N nr) (yc_J z J) (ym_pr z nr J nm S q) (nm q).toNat i) else 0) 24
    have len : (yw_cat (fun s => cond (yw_ok z n fr nm to J S q s) (yw_L (yw_ok z n fr nm to J) r (q + 1) (zv_up S q s)) []) 24).length = yc_sum (fun j => (cond (yw_ok z n fr nm to J S q (j : Int)) (yw_L (yw_ok z n fr nm to J) r (q + 1) (zv_up S q (j : Int))) []).length) 24 := len
    rw [len]
    refine yc_sum_cg fun s hs => ?_
    have eok : yw_ok z n fr nm to J S q (s : Int) = ym_pr z nr J nm S q (nm q).toNat s := by
      rw [Bool.eq_iff_iff, yw_ok_t, ym_pr_t]
      show zb z s = true ∧ _ ↔ _
      constructor
      · rintro ⟨h1, h2⟩
        refine ⟨h1, fun p p0 p1 => ⟨(h2 p p0 p1).1, fun w => (h2 p p0 p1).2 ?_⟩⟩
        obtain ⟨y1, y2, -⟩ := hrg p p0 (by omega)
        exact (yt_ln_b tl y1 (by omega) r1).mpr w
      · rintro ⟨h1, h2⟩
        refine ⟨h1, fun p p0 p1 => ⟨(h2 p p0 p1).1, fun w => (h2 p p0 p1).2 ?_⟩⟩
        obtain ⟨y1, y2, -⟩ := hrg p p0 (by omega)
        exact (yt_ln_b tl y1 (by omega) r1).mp w
    rw [eok]
    by_cases c : ym_pr z nr J nm S q (nm q).toNat s = true
    · rw [if_pos c, c]
      show (yw_L (yw_ok z n fr nm to J) r (q + 1) (zv_up S q (s : Int))).length = _
      rw [ih (q + 1) (zv_up S q (s : Int)) (by omega) (by omega) fun p p0 p1 => by
        by_cases e : p = q
        · subst e; rw [zv_up_s]; omega
        · rw [zv_up_n e]; exact hS p p0 (by omega)]
      have mem : ∀ (r2 : Nat) (q2 : Int) (b : Nat), q2 + r2 = Nn → 0 ≤ q2 → b ∈ ym_nl nm r2 q2 → b < 8 := by
        intro r2
        induction r2 with
        | zero => intro q2 b _ _ h; cases h
        | succ r2 ih2 =>
          intro q2 b h1 h2 h
          rcases List.mem_cons.mp h with h | h
          · obtain ⟨y1, y2, -⟩ := hrg q2 h2 (by omega)
            omega
          · exact ih2 (q2 + 1) b (by omega) (by omega) h
      refine yc_cg fun b hb j hj => ?_
      have hb8 := mem r (q + 1) b (by omega) (by omega) hb
      obtain ⟨c1, c2⟩ := ym_pr_t.mp c
      rw [Bool.eq_iff_iff, ym_pr_t, yc_nw_t, ym_pr_t]
      constructor
      · rintro ⟨h1, h2⟩
        have hq2 := h2 q q0 (by omega)
        rw [zv_up_s, Int.toNat_natCast] at hq2
        refine ⟨⟨h1, fun p p0 p1 => ?_⟩, fun e => hq2.1 (by omega), fun w => ?_⟩
        · have := h2 p p0 (by omega)
          rwa [zv_up_n (by omega)] at this
        · obtain ⟨-, -, w3⟩ := yc_N_t.mp w
          rw [Int.toNat_of_nonneg r1] at w3
          exact yc_J_t.mpr ⟨hs, hj, c1, h1, by rw [H.2.2.2 s j hs hj]; exact hq2.2 w3⟩
      · rintro ⟨⟨h1, h2⟩, h3, h4⟩
        refine ⟨h1, fun p p0 p1 => ?_⟩
        by_cases e : p = q
        · subst e
          rw [zv_up_s, Int.toNat_natCast]
          refine ⟨by omega, fun w => ?_⟩
          obtain ⟨-, -, -, -, w5⟩ := yc_J_t.mp (h4 (yc_N_t.mpr ⟨by omega, hb8, by rw [Int.toNat_of_nonneg r1]; exact w⟩))
          rw [H.2.2.2 j s hj hs]; exact w5
        · rw [zv_up_n e]; exact h2 p p0 (by omega)
    · rw [if_neg c, Bool.eq_false_iff.mpr c]; rfl
theorem ym_nl_mem (hn : yw_nmz ni Nn nm) : ∀ (r : Nat) (q : Int) (b : Nat), q + r = Nn → 0 ≤ q → (b ∈ ym_nl nm r q ↔ ∃ j, q ≤ j ∧ j < Nn ∧ nm j = b) := by
  obtain ⟨⟨m0, m1⟩, hinc, hrg, -⟩ := id hn
  intro r
  induction r with
  | zero => intro q b h1 h2; exact ⟨fun h => (by cases h), fun ⟨j, j1, j2, _⟩ => by omega⟩
  | succ r ih =>
    intro q b h1 h2
    obtain ⟨y1, y2, -⟩ := hrg q h2 (by omega)
    show b ∈ (nm q).toNat :: ym_nl nm r (q + 1) ↔ _
    rw [List.mem_cons, ih (q + 1) b (by omega) (by omega)]
    constructor
    · rintro (e | ⟨j, j1, j2, j3⟩)
      · exact ⟨q, Int.le_refl _, by omega, by omega⟩
      · exact ⟨j, by omega, j2, j3⟩
    · rintro ⟨j, j1, j2, j3⟩
      by_cases e : j = q
      · subst e; exact .inl (by omega)
      · exact .inr ⟨j, by omega, j2, j3⟩
theorem ym_nl_nd (hn : yw_nmz ni Nn nm) : ∀ (r : Nat) (q : Int), q + r = Nn → 0 ≤ q → (ym_nl nm r q).Nodup := by
  obtain ⟨⟨m0, m1⟩, hinc, hrg, -⟩ := id hn
  intro r
  induction r with
  | zero => intro q h1 h2; exact List.nodup_nil
  | succ r ih =>
    intro q h1 h2
    refine List.nodup_cons.mpr ⟨fun w => ?_, ih (q + 1) (by omega) (by omega)⟩
    obtain ⟨j, j1, j2, j3⟩ := (ym_nl_mem hn r (q + 1) _ (by omega) (by omega)).mp w
    have := hinc q j h2 (by omega) j2
    obtain ⟨y1, y2, -⟩ := hrg q h2 (by omega)
    omega
theorem yw_L_A (tl : yk_tl n ni nr fr to) (hn : yw_nmz ni Nn nm) (H : ym_H nr J) : (yw_L (yw_ok z n fr nm to J) Nn.toNat 0 (fun _ => 0)).length = ym_A z nr J ni := by
  obtain ⟨⟨m0, m1⟩, hinc, hrg, hcov⟩ := id hn
  rw [yw_L_len tl hn H Nn.toNat 0 _ (by omega) (Int.le_refl _) fun p p0 p1 => by omega]
  unfold ym_A
  rw [yc_set (yc_N_s H) (yc_J_s H) (ym_nl_nd hn Nn.toNat 0 (by omega) (Int.le_refl _)) (yc_ls_nd (f := zb ni) (n := 8)) fun b => ?_]
  · refine yc_cg fun b hb j hj => ?_
    rw [Bool.eq_iff_iff, ym_pr_t]
    exact ⟨fun h => h.1, fun h => ⟨h, fun p p0 p1 => by omega⟩⟩
  · rw [ym_nl_mem hn Nn.toNat 0 b (by omega) (Int.le_refl _), yc_ls_mem]
    constructor
    · rintro ⟨j, j1, j2, j3⟩
      obtain ⟨y1, y2, y3⟩ := hrg j j1 j2
      rw [j3, Int.toNat_natCast] at y3
      exact ⟨by omega, y3⟩
    · rintro ⟨h1, h2⟩; exact hcov b h1 h2
/-- a way goes on -/
theorem yw_L_ne (tl : yk_tl n ni nr fr to) (hn : yw_nmz ni Nn nm) (H : ym_H nr J) {W : Nat → Nat} (hW : ym_Y z nr J ni W) : ∀ (r : Nat) (q : Int) (S : Int → Int), q + r = Nn → 0 ≤ q → (∀ p, 0 ≤ p → p < q → S p = (W (nm p).toNat : Int)) →
    yw_L (yw_ok z n fr nm to J) r q S ≠ [] := by
  obtain ⟨⟨m0, m1⟩, hinc, hrg, hcov⟩ := id hn
  intro r
  induction r with
  | zero => intro q S _ _ _; exact List.cons_ne_nil _ _
  | succ r ih =>
    intro q S hq q0 hS
    obtain ⟨r1, r2, r3⟩ := hrg q q0 (by omega)
    have hm : (nm q).toNat ∈ yc_ls (zb ni) 8 := yc_ls_mem.mpr ⟨by omega, r3⟩
    obtain ⟨w1, w2⟩ := hW.1 _ hm
    refine yw_cat_ne (s := (W (nm q).toNat : Int)) ?_ 24 (Nat.le_refl _) (by omega) (by omega)
    have hok : yw_ok z n fr nm to J S q (W (nm q).toNat : Int) = true := yw_ok_t.mpr ⟨w2, fun p p0 p1 => by
      obtain ⟨y1, y2, y3⟩ := hrg p p0 (by omega)
      have := hinc p q p0 p1 (by omega)
      have hw := hW.2 _ (yc_ls_mem.mpr ⟨by omega, y3⟩) _ hm (show (nm p).toNat ≠ (nm q).toNat by omega)
      rw [hS p p0 p1]
      refine ⟨fun e => hw.1 (by omega), fun l => ?_⟩
      have hl := (yt_ln_b tl y1 (by omega) r1).mp l
      obtain ⟨v1, v2, -, -, v5⟩ := yc_J_t.mp (hw.2 (yc_N_t.mpr ⟨by omega, by omega, by rw [Int.toNat_of_nonneg y1]; exact hl⟩))
      rw [Int.toNat_natCast, H.2.2.2 _ _ v2 v1]; exact v5⟩
    show cond (yw_ok z n fr nm to J S q (W (nm q).toNat : Int)) (yw_L (yw_ok z n fr nm to J) r (q + 1) (zv_up S q (W (nm q).toNat : Int))) [] ≠ []
    rw [hok]
    refine ih (q + 1) _ (by omega) (by omega) fun p p0 p1 => ?_
    by_cases e : p = q
    · subst e; rw [zv_up_s]
    · rw [zv_up_n e]; exact hS p p0 (by omega)
theorem yw_L_head (tl : yk_tl n ni nr fr to) (hn : yw_nmz ni Nn nm) (H : ym_H nr J) : ∀ (r : Nat) (q : Int) (S X : Int → Int), q + r = Nn → 0 ≤ q → (∀ p, 0 ≤ p → p < q → (0 ≤ S p ∧ S p ≤ 23) ∧ yw_ok z n fr nm to J S p (S p) = true) → (yw_L (yw_ok z n fr nm to J) r q S).head? = some X →
    (∀ p, 0 ≤ p → p < q → X p = S p) ∧ (∀ p, 0 ≤ p → p < Nn → (0 ≤ X p ∧ X p ≤ 23) ∧ yw_ok z n fr nm to J X p (X p) = true) ∧ ∀ j, q ≤ j → j < Nn → ∀ W, ym_Y z nr J ni W → (∀ p, 0 ≤ p → p < j → X p = (W (nm p).toNat : Int)) → X j ≤ (W (nm j).toNat : Int) := by
  obtain ⟨⟨m0, m1⟩, hinc, hrg, hcov⟩ := id hn
  intro r
  induction r with
  | zero =>
    intro q S X hq q0 hS h
    have h : some S = some X := h
    cases h
    exact ⟨fun _ _ _ => rfl, fun p p0 p1 => hS p p0 (by omega), fun j j1 j2 => by omega⟩
  | succ r ih =>
    intro q S X hq q0 hS h
    obtain ⟨s, s0, s1, s2, s3⟩ := yw_cat_head 24 (Nat.le_refl _) h
    have s2 : (cond (yw_ok z n fr nm to J S q s) (yw_L (yw_ok z n fr nm to J) r (q + 1) (zv_up S q s)) []).head? = some X := s2
    have s3 : ∀ t : Int, 24 - ((24 : Nat) : Int) ≤ t → t < s → cond (yw_ok z n fr nm to J S q t) (yw_L (yw_ok z n fr nm to J) r (q + 1) (zv_up S q t)) [] = [] := s3
    cases hok : yw_ok z n fr nm to J S q s with
    | false => rw [hok] at s2; cases s2
    | true =>
      rw [hok] at s2
      have agr : ∀ p, 0 ≤ p → p < q → S p = zv_up S q s p := fun p _ p1 => by rw [zv_up_n (by omega)]
      have cg : ∀ p v, p ≤ q → yw_ok z n fr nm to J S p v = true → yw_ok z n fr nm to J (zv_up S q s) p v = true := fun p v p1 w => by
        obtain ⟨w1, w2⟩ := yw_ok_t.mp w
        exact yw_ok_t.mpr ⟨w1, (yw_P_cg fun p' p0' p1' => agr p' p0' (by omega)).mp w2⟩
      obtain ⟨i1, i2, i3⟩ := ih (q + 1) (zv_up S q s) X (by omega) (by omega) (fun p p0 p1 => by
        by_cases e : p = q
        · subst e; rw [zv_up_s]; exact ⟨by omega, cg p s (Int.le_refl _) hok⟩
        · rw [← agr p p0 (by omega)]; exact ⟨(hS p p0 (by omega)).1, cg p _ (by omega) (hS p p0 (by omega)).2⟩) s2
      have eq : X q = s := by rw [i1 q q0 (by omega), zv_up_s]
      have ep : ∀ p, 0 ≤ p → p < q → X p = S p := fun p p0 p1 => by rw [i1 p p0 (by omega), ← agr p p0 p1]
      refine ⟨ep, i2, fun j j1 j2 W hW hX => ?_⟩
      by_cases e : j = q
      · subst e
        by_cases lt : (W (nm j).toNat : Int) < X j
        · obtain ⟨y1, y2, y3⟩ := hrg j q0 (by omega)
          have hm : (nm j).toNat ∈ yc_ls (zb ni) 8 := yc_ls_mem.mpr ⟨by omega, y3⟩
          have h0 := s3 (W (nm j).toNat : Int) (by omega) (by omega)
          have ne := yw_L_ne tl hn H hW (r + 1) j S (by omega) q0 fun p p0 p1 => by rw [← ep p p0 p1]; exact hX p p0 p1
          have ne2 := yw_L_ne tl hn H hW r (j + 1) (zv_up S j (W (nm j).toNat : Int)) (by omega) (by omega) fun p p0 p1 => by
            by_cases e : p = j
            · subst e; rw [zv_up_s]
            · rw [zv_up_n e, ← ep p p0 (by omega)]; exact hX p p0 (by omega)
          have hok2 : yw_ok z n fr nm to J S j (W (nm j).toNat : Int) = true := yw_ok_t.mpr ⟨(hW.1 _ hm).2, fun p p0 p1 => by
            obtain ⟨z1, z2, z3⟩ := hrg p p0 (by omega)
            have := hinc p j p0 p1 (by omega)
            have hw := hW.2 _ (yc_ls_mem.mpr ⟨by omega, z3⟩) _ hm (show (nm p).toNat ≠ (nm j).toNat by omega)
            rw [← ep p p0 p1, hX p p0 p1]
            refine ⟨fun e => hw.1 (by omega), fun l => ?_⟩
            have hl := (yt_ln_b tl z1 (by omega) y1).mp l
            obtain ⟨v1, v2, -, -, v5⟩ := yc_J_t.mp (hw.2 (yc_N_t.mpr ⟨by omega, by omega, by rw [Int.toNat_of_nonneg z1]; exact hl⟩))
            rw [Int.toNat_natCast, H.2.2.2 _ _ v2 v1]; exact v5⟩
          rw [hok2] at h0
          exact absurd h0 ne2
        · omega
      · exact i3 j (by omega) j2 W hW hX
/-- the first of the reference's ways is the first of all -/
theorem yw_L_F (tl : yk_tl n ni nr fr to) (hn : yw_nmz ni Nn nm) (H : ym_H nr J) {X : Int → Int} (h : (yw_L (yw_ok z n fr nm to J) Nn.toNat 0 (fun _ => 0)).head? = some X) : ∃ W, ym_F z nr J ni W ∧ ∀ j, 0 ≤ j → j < Nn → X j = (W (nm j).toNat : Int) := by
  obtain ⟨⟨m0, m1⟩, hinc, hrg, hcov⟩ := id hn
  obtain ⟨-, h2, h3⟩ := yw_L_head tl hn H Nn.toNat 0 _ X (by omega) (Int.le_refl _) (fun p p0 p1 => by omega) h
  have inj : ∀ i j, 0 ≤ i → i < Nn → 0 ≤ j → j < Nn → nm i = nm j → i = j := fun i j i0 i1 j0 j1 e => by
    by_cases a : i < j
    · have := hinc i j i0 a j1; omega
    · by_cases b : j < i
      · have := hinc j i j0 b i1; omega
      · omega
  have ex : ∀ b : Nat, ∃ v : Nat, ∀ j, 0 ≤ j → j < Nn → nm j = b → X j = v := fun b => by
    by_cases c : ∃ j, 0 ≤ j ∧ j < Nn ∧ nm j = b
    · obtain ⟨j, j0, j1, j2⟩ := c
      refine ⟨(X j).toNat, fun i i0 i1 i2 => ?_⟩
      rw [inj i j i0 i1 j0 j1 (by omega), Int.toNat_of_nonneg (h2 j j0 j1).1.1]
    · exact ⟨0, fun j j0 j1 j2 => absurd ⟨j, j0, j1, j2⟩ c⟩
  obtain ⟨W, hW⟩ : ∃ W : Nat → Nat, ∀ b : Nat, ∀ j, 0 ≤ j → j < Nn → nm j = b → X j = W b := ⟨fun b => Classical.choose (ex b), fun b => Classical.choose_spec (ex b)⟩
  have hWX : ∀ j, 0 ≤ j → j < Nn → X j = (W (nm j).toNat : Int) := fun j j0 j1 => hW _ j j0 j1 (Int.toNat_of_nonneg (hrg j j0 j1).1).symm
  have idx : ∀ b : Nat, b < 8 → zb ni b = true → ∃ j, 0 ≤ j ∧ j < Nn ∧ nm j = b ∧ X j = W b := fun b b1 b2 => by
    obtain ⟨j, j0, j1, j2⟩ := hcov b b1 b2
    exact ⟨j, j0, j1, j2, hW b j j0 j1 j2⟩
  refine ⟨W, ⟨⟨fun b hb => ?_, fun b hb c hc hbc => ?_⟩, fun b b1 b2 V hV hVW => ?_⟩, hWX⟩
  · obtain ⟨b1, b2⟩ := yc_ls_mem.mp hb
    obtain ⟨j, j0, j1, j2, j3⟩ := idx b b1 b2
    obtain ⟨⟨k1, k2⟩, k3⟩ := h2 j j0 j1
    have k4 := (yw_ok_t.mp k3).1
    rw [j3, Int.toNat_natCast] at k4
    exact ⟨by omega, k4⟩
  · obtain ⟨b1, b2⟩ := yc_ls_mem.mp hb
    obtain ⟨c1, c2⟩ := yc_ls_mem.mp hc
    obtain ⟨j, j0, j1, j2, j3⟩ := idx b b1 b2
    obtain ⟨i, i0, i1, i2, i3⟩ := idx c c1 c2
    obtain ⟨⟨k1, k2⟩, k3⟩ := h2 j j0 j1
    obtain ⟨⟨l1, l2⟩, l3⟩ := h2 i i0 i1
    obtain ⟨u1, u2⟩ := yw_ok_t.mp k3
    obtain ⟨v1, v2⟩ := yw_ok_t.mp l3
    rw [j3, Int.toNat_natCast] at u1
    rw [i3, Int.toNat_natCast] at v1
    by_cases lt : j < i
    · have q := v2 j j0 lt
      rw [j3, i3, Int.toNat_natCast] at q
      refine ⟨fun e => q.1 (by omega), fun w => yc_J_t.mpr ⟨by omega, by omega, u1, v1, ?_⟩⟩
      rw [H.2.2.2 _ _ (by omega) (by omega)]
      exact q.2 ((yt_ln_b tl (by omega) (by omega) (by omega)).mpr (by rw [j2, i2, Int.toNat_natCast]; exact (yc_N_t.mp w).2.2))
    · have lt : i < j := by
        by_cases e : i = j
        · subst e; omega
        · omega
      have q := u2 i i0 lt
      rw [j3, i3, Int.toNat_natCast] at q
      refine ⟨fun e => q.1 (by omega), fun w => yc_J_t.mpr ⟨by omega, by omega, u1, v1, ?_⟩⟩
      refine q.2 ((yt_ln_b tl (by omega) (by omega) (by omega)).mpr ?_)
      rw [j2, i2, Int.toNat_natCast, H.2.1 c b c1 b1]
      exact (yc_N_t.mp w).2.2
  · obtain ⟨j, j0, j1, j2, j3⟩ := idx b b1 b2
    have q := h3 j j0 j1 V hV fun p p0 p1 => by
      obtain ⟨y1, y2, y3⟩ := hrg p p0 (by omega)
      have := hinc p j p0 p1 j1
      rw [hWX p p0 (by omega), hVW (nm p).toNat (by omega) y3]
    rw [j3, j2, Int.toNat_natCast] at q
    omega
end YCR
end
section
/-! The matcher counts all ways, and finds the first. -/
def ym_Lg (z : Int) (nr J g : Int → Int) (b : Nat) : Prop := z24 (g b) ∧ ∀ q : Nat, zb (g b) q = (decide (q < 24) && (zb z q && decide (zs_sum (nr b) 24 ≤ zs_sum (zi_and (J q) z) 24)))
theorem zh_and {α : Type} {x : Option α} {P Q : α → Prop} (h1 : zh_ok x P) (h2 : zh_ok x Q) : zh_ok x fun o => P o ∧ Q o := by
  obtain ⟨o, e1, p⟩ := h1
  obtain ⟨o2, e2, q⟩ := h2
  rw [e1] at e2
  cases e2
  exact ⟨o, e1, p, q⟩
section YCF
variable {z ni : Int} {nr J : Int → Int}
theorem ym_lg (H : ym_H nr J) (HN : ∀ a : Nat, a < 8 → ∀ b, zb (nr a) b = true → b < 8 ∧ zb ni b = true) (hz : z24 z) {V : Nat → Nat} (hV : ym_Y z nr J ni V) {b : Nat} (hb : b < 8) (hx : zb ni b = true) : zs_sum (nr b) 24 ≤ zs_sum (zi_and (J (V b)) z) 24 := by
  have hm : b ∈ yc_ls (zb ni) 8 := yc_ls_mem.mpr ⟨hb, hx⟩
  have hv := (hV.1 b hm).1
  have z1 := (H.1 b hb).1
  have z2 := z24_and (b := z) (H.2.2.1 (V b) hv).1
  rw [yn_sum z1.1 (by have := z1.2; omega) 24, yn_sum z2.1 (by have := z2.2; omega) 24]
  have l := yc_legs (z := zb z) (fun _ _ j h => h) hV hm (f := zb (nr b)) (n := 24) fun c c1 c2 => by
    obtain ⟨d1, d2⟩ := HN b hb c c2
    exact ⟨yc_ls_mem.mpr ⟨d1, d2⟩, (fun e => by subst e; rw [(H.1 c hb).2.2] at c2; cases c2), yc_N_t.mpr ⟨hb, d1, c2⟩⟩
  have l2 := yn_le (f := fun j => yc_J z J (V b) j && zb z j) (g := zb (zi_and (J (V b)) z)) 24 fun j hj h => by
    rw [Bool.and_eq_true] at h
    rw [zb_and, (yc_J_t.mp h.1).2.2.2.2, h.2]; rfl
  omega
theorem ym_lg_tw (H : ym_H nr J) {p q : Nat} (hp : p < 24) (hq : q < 24) (ht : ym_tw z J p q) : zs_sum (zi_and (J p) z) 24 = zs_sum (zi_and (J q) z) 24 := by
  have z1 := z24_and (b := z) (H.2.2.1 p hp).1
  have z2 := z24_and (b := z) (H.2.2.1 q hq).1
  rw [yn_sum z1.1 (by have := z1.2; omega) 24, yn_sum z2.1 (by have := z2.2; omega) 24]
  by_cases e : p = q
  · rw [e]
  have other : ∀ x : Nat, x < 24 → x ≠ p → x ≠ q → zb (zi_and (J p) z) x = zb (zi_and (J q) z) x := fun x hx xp xq => by
    rw [zb_and, zb_and]
    by_cases zx : zb z x = true
    · rw [ht.2.2 x hx zx xp xq]
    · rw [Bool.eq_false_iff.mpr zx, Bool.and_false, Bool.and_false]
  have fpp : zb (zi_and (J p) z) p = false := by rw [zb_and, (H.2.2.1 p hp).2, Bool.false_and]
  have gqq : zb (zi_and (J q) z) q = false := by rw [zb_and, (H.2.2.1 q hq).2, Bool.false_and]
  by_cases c : zb (J p) q = true
  · have fpq : zb (zi_and (J p) z) q = true := by rw [zb_and, c, ht.2.1]; rfl
    have gqp : zb (zi_and (J q) z) p = true := by rw [zb_and, H.2.2.2 q p hq hp, c, ht.1]; rfl
    have a := yn_add (f := fun x => zb (zi_and (J p) z) x && !decide (x = q)) (g := zb (zi_and (J p) z)) (k := q) (by rw [decide_eq_true rfl, Bool.not_true, Bool.and_false]) fpq 24 hq fun j _ hj => by rw [decide_eq_false hj, Bool.not_false, Bool.and_true]
    have b := yn_add (f := fun x => zb (zi_and (J p) z) x && !decide (x = q)) (g := zb (zi_and (J q) z)) (k := p) (by rw [fpp, Bool.false_and]) gqp 24 hp fun j hj hjp => by
      by_cases ejq : j = q
      · subst ejq; rw [decide_eq_true rfl, Bool.not_true, Bool.and_false, gqq]
      · rw [decide_eq_false ejq, Bool.not_false, Bool.and_true]; exact other j hj hjp ejq
    omega
  · refine yn_eq 24 fun j hj => ?_
    by_cases ejp : j = p
    · subst ejp
      rw [fpp, zb_and, H.2.2.2 q j hq hp, Bool.eq_false_iff.mpr c, Bool.false_and]
    · by_cases ejq : j = q
      · subst ejq
        rw [gqq, zb_and, Bool.eq_false_iff.mpr c, Bool.false_and]
      · exact other j hj ejp ejq
theorem ym_I_first (H : ym_H nr J) {g : Int → Int} {i : Nat} {sx : Nat → Nat} (hl : ∀ b : Nat, b < 8 → zb ni b = true → i ≤ b → ym_Lg z nr J g b) (hs : ∀ b : Nat, b < 8 → zb ni b = true → b < i → g b = zi_shl 1 (sx b : Int) ∧ sx b < 24 ∧ zb z (sx b) = true) : ym_I z J (fun b => b < i ∧ zb ni b = true) sx (fun _ => False) (8 * 0) ni g := by
  have e : ∀ b : Nat, g (8 * 0 + (b : Int)) = g b := fun b => by rw [show (8 * 0 + (b : Int)) = (b : Int) by omega]
  have sb : ∀ b : Nat, b < 8 → zb ni b = true → b < i → ∀ j, zb (g b) j = true → j = sx b := fun b b1 b2 b3 j hj => by
    obtain ⟨s1, s2, s3⟩ := hs b b1 b2 b3
    rw [s1, zb_shl (by omega) (by omega), decide_eq_true_iff, Int.toNat_natCast] at hj
    exact hj
  refine ⟨fun b hb hx => ?_, fun b hb hx hf j hj => ?_, fun b hb hf => .inl hf.2, fun b hb hx hf p q hp hq ht _ _ _ hbp => ?_⟩
  · rw [e b]
    by_cases c : b < i
    · obtain ⟨s1, s2, s3⟩ := hs b hb hx c
      refine ⟨by rw [s1]; exact z24_shl (by omega) (by omega), fun j hj => ⟨?_, fun w => w⟩⟩
      rw [sb b hb hx c j hj]; exact s3
    · obtain ⟨l1, l2⟩ := hl b hb hx (by omega)
      refine ⟨l1, fun j hj => ⟨?_, fun w => w⟩⟩
      rw [l2 j, Bool.and_eq_true, Bool.and_eq_true] at hj
      exact hj.2.1
  · rw [e b] at hj
    exact sb b hb hx hf.1 j hj
  · rw [e b] at hbp ⊢
    obtain ⟨l1, l2⟩ := hl b hb hx (by
      by_cases c : b < i
      · exact absurd ⟨c, hx⟩ hf
      · omega)
    rw [l2, Bool.and_eq_true, Bool.and_eq_true] at hbp ⊢
    exact ⟨decide_eq_true hq, ht.2.1, by rw [← ym_lg_tw H hp hq ht]; exact hbp.2.2⟩
/-- ways by such rows: those of all that begin so -/
theorem ym_C_first (H : ym_H nr J) (HN : ∀ a : Nat, a < 8 → ∀ b, zb (nr a) b = true → b < 8 ∧ zb ni b = true) (hz : z24 z) {g : Int → Int} {i : Nat} {sx : Nat → Nat} (hl : ∀ b : Nat, b < 8 → zb ni b = true → i ≤ b → ym_Lg z nr J g b) (hs : ∀ b : Nat, b < 8 → zb ni b = true → b < i → g b = zi_shl 1 (sx b : Int) ∧ sx b < 24 ∧ zb z (sx b) = true) :
    (0 < ym_C z nr J (8 * 0) ni g ↔ ∃ V, ym_Y z nr J ni V ∧ ∀ c : Nat, c < 8 → c < i → zb ni c = true → V c = sx c) ∧ (∀ S : Int → Int, ym_W z nr J (8 * 0) ni g S → ym_Y z nr J ni (fun b => (S b).toNat) ∧ (∀ c : Nat, c < 8 → c < i → zb ni c = true → (S c).toNat = sx c) ∧ ∀ b : Nat, b < 8 → zb ni b = true → 0 ≤ S b) := by
  have e : ∀ b : Nat, g (8 * 0 + (b : Int)) = g b := fun b => by rw [show (8 * 0 + (b : Int)) = (b : Int) by omega]
  have sb : ∀ b : Nat, b < 8 → zb ni b = true → b < i → ∀ j, zb (g b) j = true → j = sx b := fun b b1 b2 b3 j hj => by
    obtain ⟨s1, s2, s3⟩ := hs b b1 b2 b3
    rw [s1, zb_shl (by omega) (by omega), decide_eq_true_iff, Int.toNat_natCast] at hj
    exact hj
  have hI := ym_I_first H hl hs
  have up : ∀ W : Nat → Nat, yc_w (yc_N nr) (yc_J z J) (yc_R g (8 * 0)) (yc_ls (zb ni) 8) W → ym_Y z nr J ni W ∧ ∀ c : Nat, c < 8 → c < i → zb ni c = true → W c = sx c := fun W hW => by
    refine ⟨yc_w_row hW fun b hb => ?_, fun c c1 c2 c3 => ?_⟩
    · obtain ⟨b1, b2⟩ := yc_ls_mem.mp hb
      exact ((hI.1 b b1 b2).2 _ (hW.1 b hb).2).1
    · have hr : zb (g (8 * 0 + (c : Int))) (W c) = true := (hW.1 c (yc_ls_mem.mpr ⟨c1, c3⟩)).2
      rw [e c] at hr
      exact sb c c1 c3 c2 _ hr
  refine ⟨⟨fun h => ?_, fun ⟨V, hV, hV2⟩ => ?_⟩, fun S hS => ⟨(up _ hS.1).1, (up _ hS.1).2, hS.2⟩⟩
  · obtain ⟨W, hW⟩ := yc_pos2 (yc_N_s H) (yc_J_s H) yc_ls_nd h
    exact ⟨W, up W hW⟩
  · refine yc_pos1 (yc_N_s H) (yc_J_s H) (S := V) yc_ls_nd (yc_w_row hV fun b hb => ?_)
    obtain ⟨b1, b2⟩ := yc_ls_mem.mp hb
    show zb (g (8 * 0 + (b : Int))) (V b) = true
    rw [e b]
    by_cases c : b < i
    · obtain ⟨s1, s2, s3⟩ := hs b b1 b2 c
      rw [s1, zb_shl (by omega) (by omega), decide_eq_true_iff, Int.toNat_natCast]
      exact hV2 b b1 c b2
    · rw [(hl b b1 b2 (by omega)).2, decide_eq_true (hV.1 b hb).1, show zb z (V b) = true from (hV.1 b hb).2, decide_eq_true (ym_lg H HN hz hV b1 b2)]; rfl
theorem ym_count (H : ym_H nr J) (HN : ∀ a : Nat, a < 8 → ∀ b, zb (nr a) b = true → b < 8 ∧ zb ni b = true) (hz : z24 z) (hni : z24 ni) (hn8 : ∀ b, zb ni b = true → b < 8) {most f2 : Int} {g1 g3 g4 : Int → Int} (m1 : 1 ≤ most) (m2 : most ≤ 10000) :
    zh_ok (zf_Matcher_countWays_24 z most f2 ni J g1 nr g3 g4) fun o => o.1 = (if (ym_A z nr J ni : Int) < most then (ym_A z nr J ni : Int) else most) ∧ (most = 1 → 0 < o.1 → ym_Y z nr J ni (fun b => (o.2.2.2.2 b).toNat) ∧ ∀ b : Nat, b < 8 → zb ni b = true → 0 ≤ o.2.2.2.2 b) := by
  unfold zf_Matcher_countWays_24
  refine zh_bind (ym_begin (fun i hi => (H.2.2.1 i hi).1) fun j hj => (H.1 j hj).1) fun r1 h1 => ?_
  obtain ⟨-, hrow, htw⟩ := h1
  have hl : ∀ b : Nat, b < 8 → zb ni b = true → 0 ≤ b → ym_Lg z nr J r1.2.1 b := fun b b1 _ _ => hrow b b1
  have hs : ∀ b : Nat, b < 8 → zb ni b = true → b < 0 → r1.2.1 b = zi_shl 1 (((fun _ => 0 : Nat → Nat) b : Nat) : Int) ∧ (fun _ => 0 : Nat → Nat) b < 24 ∧ zb z ((fun _ => 0 : Nat → Nat) b) = true := fun b _ _ b3 => absurd b3 (Nat.not_lt_zero b)
  have hI := ym_I_first (z := z) H hl hs
  have hA : ym_C z nr J (8 * 0) ni r1.2.1 = ym_A z nr J ni := by
    have e : ∀ b : Nat, r1.2.1 (8 * 0 + (b : Int)) = r1.2.1 b := fun b => by rw [show (8 * 0 + (b : Int)) = (b : Int) by omega]
    refine yc_prune (yc_N_s H) (yc_J_s H) yc_ls_nd (fun b hb j _ hj => ?_) fun V hV b hb => ?_
    · obtain ⟨b1, b2⟩ := yc_ls_mem.mp hb
      exact ((hI.1 b b1 b2).2 j hj).1
    · obtain ⟨b1, b2⟩ := yc_ls_mem.mp hb
      show zb (r1.2.1 (8 * 0 + (b : Int))) (V b) = true
      rw [e b, (hrow b b1).2, decide_eq_true (hV.1 b hb).1, show zb z (V b) = true from (hV.1 b hb).2, decide_eq_true (ym_lg H HN hz hV b1 b2)]; rfl
  have hc8 : yn_n (zb ni) 8 ≤ 8 := (yn_in 8).2
  refine zh_bind (ym_search H htw 9 0 0 ni most r1.1 r1.2.1 g4 (fun _ => False) (by decide) (by omega) (by decide) m1 m2 hni hn8 hI) fun r2 h2 => zh_ret ?_
  obtain ⟨q1, -, -, q4⟩ := h2
  rw [hA] at q1
  exact ⟨q1, fun e1 e2 => by
    obtain ⟨c1, -, c3⟩ := (ym_C_first H HN hz hl hs).2 _ (q4 e1 e2)
    exact ⟨c1, c3⟩⟩
theorem ym_settle (H : ym_H nr J) (HN : ∀ a : Nat, a < 8 → ∀ b, zb (nr a) b = true → b < 8 ∧ zb ni b = true) (hz : z24 z) (hni : z24 ni) (hn8 : ∀ b, zb ni b = true → b < 8) {T : Int → Int} (hT : ∀ p : Nat, p < 24 → ∀ q, zb (T p) q = true ↔ q < 24 ∧ (q = p ∨ ym_tw z J p q)) {f3 : Int} {g S : Int → Int} {b0 : Nat} (hb0 : b0 < 8) (hx0 : zb ni b0 = true) {sx : Nat → Nat}
    (hl : ∀ b : Nat, b < 8 → zb ni b = true → b0 ≤ b → ym_Lg z nr J g b) (hs : ∀ b : Nat, b < 8 → zb ni b = true → b < b0 → g b = zi_shl 1 (sx b : Int) ∧ sx b < 24 ∧ zb z (sx b) = true) :
    zh_ok (zf_Matcher_settleLowest (b0 : Int) ni f3 g nr T S J) fun o => (o.1 = 1 ∧ ∃ m : Nat, m < 24 ∧ zb z m = true ∧ (∀ b : Nat, b < 8 → b ≠ b0 → o.2.2.1 b = g b) ∧ o.2.2.1 b0 = zi_shl 1 (m : Int) ∧ (∀ V, ym_Y z nr J ni V → (∀ c : Nat, c < b0 → zb ni c = true → V c = sx c) → m ≤ V b0) ∧ ym_Y z nr J ni (fun b => (o.2.2.2 b).toNat) ∧ (∀ c : Nat, c < b0 → zb ni c = true → (o.2.2.2 c).toNat = sx c) ∧ (o.2.2.2 b0).toNat = m ∧ ∀ b : Nat, b < 8 → zb ni b = true → 0 ≤ o.2.2.2 b) ∨
      (o.1 = 0 ∧ ∀ V, ym_Y z nr J ni V → ¬ ∀ c : Nat, c < b0 → zb ni c = true → V c = sx c) := by
  unfold zf_Matcher_settleLowest
  rw [zl_ci (a := (b0 : Int)) (by omega) (by omega)]
  have lg := hl b0 hb0 hx0 (Nat.le_refl _)
  have hm0 : b0 ∈ yc_ls (zb ni) 8 := yc_ls_mem.mpr ⟨hb0, hx0⟩
  refine zh_sum (Q := fun q => match q with
    | .inl a => ∀ V, ym_Y z nr J ni V → ¬ ∀ c : Nat, c < b0 → zb ni c = true → V c = sx c
    | .inr o => o.1 = 1 ∧ ∃ m : Nat, m < 24 ∧ zb z m = true ∧ (∀ b : Nat, b < 8 → b ≠ b0 → o.2.2.1 b = g b) ∧ o.2.2.1 b0 = zi_shl 1 (m : Int) ∧ (∀ V, ym_Y z nr J ni V → (∀ c : Nat, c < b0 → zb ni c = true → V c = sx c) → m ≤ V b0) ∧ ym_Y z nr J ni (fun b => (o.2.2.2 b).toNat) ∧ (∀ c : Nat, c < b0 → zb ni c = true → (o.2.2.2 c).toNat = sx c) ∧ (o.2.2.2 b0).toNat = m ∧ ∀ b : Nat, b < 8 → zb ni b = true → 0 ≤ o.2.2.2 b)
    (zh_loop (F := fun n i (a : Int × (Int → Int) × (Int → Int)) => zf_Matcher_settleLowest_l0 (b0 : Int) (g b0) ni nr T J n i a.1 a.2.1 a.2.2) (N := 24) (I := fun i a => (∀ b : Nat, b < 8 → b ≠ b0 → a.2.1 b = g b) ∧ ∀ V, ym_Y z nr J ni V → (∀ c : Nat, c < b0 → zb ni c = true → V c = sx c) → i ≤ (V b0 : Int)) (fun n i a i0 i1 hI k => ?_) 24 0 (f3, g, S) zi_fu (by decide) (by decide) (by decide) (by decide) ⟨fun _ _ _ => rfl, fun V _ _ => by omega⟩) (fun a ha => zh_ret (.inr ⟨rfl, ha⟩)) fun o ho => zh_ret (.inl ho)
  obtain ⟨f, g0, S0⟩ := a
  obtain ⟨I1, I2⟩ := hI
  have I1 : ∀ b : Nat, b < 8 → b ≠ b0 → g0 b = g b := I1
  show zh_ok (zf_Matcher_settleLowest_l0_b (b0 : Int) (g b0) ni nr T J (zf_Matcher_settleLowest_l0 (b0 : Int) (g b0) ni nr T J n) i f g0 S0) _
  unfold zf_Matcher_settleLowest_l0_b
  refine zh_ite (fun hi => ?_) fun hi => zh_ret fun V hV hp => by
    have := I2 V hV hp
    have := (hV.1 b0 hm0).1
    omega
  obtain ⟨m, rfl⟩ : ∃ m : Nat, i = m := ⟨i.toNat, by omega⟩
  have hm : m < 24 := by omega
  rw [zi_w_id (x := (m : Int) + 1) (by omega) (by omega)]
  have next : (∀ V, ym_Y z nr J ni V → (∀ c : Nat, c < b0 → zb ni c = true → V c = sx c) → V b0 ≠ m) → ∀ V, ym_Y z nr J ni V → (∀ c : Nat, c < b0 → zb ni c = true → V c = sx c) → (m : Int) + 1 ≤ (V b0 : Int) := fun h V hV hp => by
    have := I2 V hV hp
    have := h V hV hp
    omega
  by_cases hb : zb (g b0) m = true
  · rw [zb_bit1 (t := g b0) (i := (m : Int)) i0 (by omega) hb, if_neg (show ¬ (1 : Int) = 0 by decide), zl_ci (a := (b0 : Int)) (by omega) (by omega)]
    have zm : zb z m = true := by
      rw [lg.2, Bool.and_eq_true, Bool.and_eq_true] at hb
      exact hb.2.1
    obtain ⟨sx2, e2⟩ : ∃ sx2 : Nat → Nat, sx2 = fun b => if b = b0 then m else sx b := ⟨_, rfl⟩
    have e20 : sx2 b0 = m := by rw [e2]; exact if_pos rfl
    have e2n : ∀ b, b ≠ b0 → sx2 b = sx b := fun b hne => by rw [e2]; exact if_neg hne
    have hl2 : ∀ b : Nat, b < 8 → zb ni b = true → b0 + 1 ≤ b → ym_Lg z nr J (zv_up g0 (b0 : Int) (zi_shl 1 (m : Int))) b := fun b b1 b2 b3 => by
      unfold ym_Lg
      rw [zv_up_n (by omega), I1 b b1 (by omega)]
      exact hl b b1 b2 (by omega)
    have hs2 : ∀ b : Nat, b < 8 → zb ni b = true → b < b0 + 1 → zv_up g0 (b0 : Int) (zi_shl 1 (m : Int)) b = zi_shl 1 (sx2 b : Int) ∧ sx2 b < 24 ∧ zb z (sx2 b) = true := fun b b1 b2 b3 => by
      by_cases e : b = b0
      · subst e; rw [zv_up_s, e20]; exact ⟨rfl, hm, zm⟩
      · rw [zv_up_n (by omega), I1 b b1 e, e2n b e]
        exact hs b b1 b2 (by omega)
    obtain ⟨C1, C2⟩ := ym_C_first H HN hz hl2 hs2
    have hc8 : yn_n (zb ni) 8 ≤ 8 := (yn_in 8).2
    refine zh_bind (ym_search H hT 9 0 0 ni 1 f (zv_up g0 (b0 : Int) (zi_shl 1 (m : Int))) S0 (fun _ => False) (by decide) (by omega) (by decide) (by decide) (by decide) hni hn8 (ym_I_first H hl2 hs2)) fun r5 h5 => ?_
    obtain ⟨q1, q2, q3, q4⟩ := h5
    refine zh_ite (fun hp => zh_ret ⟨rfl, m, hm, zm, fun b b1 b2 => ?_, ?_, ?_, ?_⟩) fun hn => k (_, _, _) hi ⟨fun b b1 b2 => ?_, next fun V hV hp e => ?_⟩
    · show r5.2.2.1 b = g b
      rw [q2 b (by omega), zv_up_n (by omega)]; exact I1 b b1 b2
    · show r5.2.2.1 b0 = _
      rw [q2 b0 (by omega), zv_up_s]
    · intro V hV hp
      have := I2 V hV hp
      omega
    · obtain ⟨d1, d2, d3⟩ := C2 _ (q4 rfl hp)
      refine ⟨d1, fun c c1 c2 => ?_, ?_, d3⟩
      · rw [← e2n c (by omega)]; exact d2 c (by omega) (by omega) c2
      · rw [← e20]; exact d2 b0 hb0 (by omega) hx0
    · show r5.2.2.1 b = g b
      rw [q2 b (by omega), zv_up_n (by omega)]; exact I1 b b1 b2
    · have hC : 0 < ym_C z nr J (8 * 0) ni (zv_up g0 (b0 : Int) (zi_shl 1 (m : Int))) := C1.mpr ⟨V, hV, fun c c1 c2 c3 => by
        by_cases ec : c = b0
        · subst ec; rw [e20]; exact e
        · rw [e2n c ec]; exact hp c (by omega) c3⟩
      rw [q1] at hn
      split at hn <;> omega
  · rw [zb_bit0 (t := g b0) (i := (m : Int)) i0 (by omega) hb, if_pos rfl]
    refine k (f, g0, S0) hi ⟨I1, next fun V hV hp e => hb ?_⟩
    rw [← e, lg.2, decide_eq_true (hV.1 b0 hm0).1, show zb z (V b0) = true from (hV.1 b0 hm0).2, decide_eq_true (ym_lg H HN hz hV hb0 hx0)]; rfl
theorem ym_first (H : ym_H nr J) (HN : ∀ a : Nat, a < 8 → ∀ b, zb (nr a) b = true → b < 8 ∧ zb ni b = true) (hz : z24 z) (hni : z24 ni) (hn8 : ∀ b, zb ni b = true → b < 8) (hne : ∃ b : Nat, b < 8 ∧ zb ni b = true) {f2 : Int} {g1 g3 g4 : Int → Int} :
    zh_ok (zf_Matcher_findFirst_24 z f2 ni J g1 nr g3 g4) fun o => (o.1 = 1 ∧ ym_F z nr J ni (fun b => (o.2.2.2.2 b).toNat) ∧ ∀ b : Nat, b < 8 → zb ni b = true → 0 ≤ o.2.2.2.2 b) ∨ (o.1 = 0 ∧ ∀ V, ¬ ym_Y z nr J ni V) := by
  unfold zf_Matcher_findFirst_24
  refine zh_bind (ym_begin (fun i hi => (H.2.2.1 i hi).1) fun j hj => (H.1 j hj).1) fun r1 h1 => ?_
  obtain ⟨-, hrow, htw⟩ := h1
  refine zh_sum (Q := fun q => match q with
    | .inl a => ym_F z nr J ni (fun b => (a.2.2 b).toNat) ∧ ∀ b : Nat, b < 8 → zb ni b = true → 0 ≤ a.2.2 b
    | .inr o => o.1 = 0 ∧ ∀ V, ¬ ym_Y z nr J ni V)
    (zh_loop (F := fun n i (a : Int × (Int → Int) × (Int → Int)) => zf_Matcher_findFirst_24_l0 ni J nr r1.2.2 n i a.1 a.2.1 a.2.2) (N := 8) (I := fun i a => ∃ sx : Nat → Nat, (∀ b : Nat, b < 8 → zb ni b = true → i ≤ (b : Int) → ym_Lg z nr J a.2.1 b) ∧ (∀ b : Nat, b < 8 → zb ni b = true → (b : Int) < i → a.2.1 b = zi_shl 1 (sx b : Int) ∧ sx b < 24 ∧ zb z (sx b) = true) ∧
      (∀ b : Nat, b < 8 → zb ni b = true → (b : Int) < i → ∀ V, ym_Y z nr J ni V → (∀ c : Nat, c < b → zb ni c = true → V c = sx c) → sx b ≤ V b) ∧ ((∃ c : Nat, (c : Int) < i ∧ zb ni c = true) → ym_Y z nr J ni (fun b => (a.2.2 b).toNat) ∧ (∀ c : Nat, (c : Int) < i → zb ni c = true → (a.2.2 c).toNat = sx c) ∧ ∀ b : Nat, b < 8 → zb ni b = true → 0 ≤ a.2.2 b)) (fun n i a i0 i1 hI k => ?_) 8 0 (r1.1, r1.2.1, g4) zi_fu (by decide) (by decide) (by decide) (by decide)
      ⟨fun _ => 0, fun b b1 _ _ => hrow b b1, fun b _ _ b3 => by omega, fun b _ _ b3 => by omega, fun ⟨c, c1, _⟩ => by omega⟩) (fun a ha => zh_ret (.inl ⟨rfl, ha⟩)) fun o ho => zh_ret (.inr ho)
  obtain ⟨f, g, S⟩ := a
  obtain ⟨sx, I1, I2, I3, I4⟩ := hI
  show zh_ok (zf_Matcher_findFirst_24_l0_b ni J nr r1.2.2 (zf_Matcher_findFirst_24_l0 ni J nr r1.2.2 n) i f g S) _
  unfold zf_Matcher_findFirst_24_l0_b
  refine zh_ite (fun hi => ?_) fun hi => zh_ret ?_
  · obtain ⟨b0, rfl⟩ : ∃ b0 : Nat, i = b0 := ⟨i.toNat, by omega⟩
    rw [zi_w_id (x := (b0 : Int) + 1) (by omega) (by omega)]
    by_cases hb : zb ni b0 = true
    · rw [zb_bit1 (t := ni) (i := (b0 : Int)) i0 (by omega) hb, if_neg (show ¬ (1 : Int) = 0 by decide)]
      refine zh_bind (ym_settle H HN hz hni hn8 htw (by omega : b0 < 8) hb (fun b b1 b2 b3 => I1 b b1 b2 (by omega)) fun b b1 b2 b3 => I2 b b1 b2 (by omega)) fun r4 h4 => ?_
      rcases h4 with ⟨q0, m, q1, q2, q3, q4, q5, q6, q7, q8, q9⟩ | ⟨q0, q1⟩
      · rw [if_neg (by rw [q0]; decide)]
        obtain ⟨sx2, e2⟩ : ∃ sx2 : Nat → Nat, sx2 = fun b => if b = b0 then m else sx b := ⟨_, rfl⟩
        have e20 : sx2 b0 = m := by rw [e2]; exact if_pos rfl
        have e2n : ∀ b, b ≠ b0 → sx2 b = sx b := fun b hne => by rw [e2]; exact if_neg hne
        refine k (_, _, _) hi ⟨sx2, fun b b1 b2 b3 => ?_, fun b b1 b2 b3 => ?_, fun b b1 b2 b3 V hV hp => ?_, fun _ => ⟨q6, fun c c1 c2 => ?_, q9⟩⟩
        · show ym_Lg z nr J r4.2.2.1 b
          unfold ym_Lg
          rw [q3 b b1 (by omega)]
          exact I1 b b1 b2 (by omega)
        · show r4.2.2.1 b = _ ∧ _
          by_cases e : b = b0
          · subst e; rw [q4, e20]; exact ⟨rfl, q1, q2⟩
          · rw [q3 b b1 e, e2n b e]; exact I2 b b1 b2 (by omega)
        · by_cases e : b = b0
          · subst e
            rw [e20]
            exact q5 V hV fun c c1 c2 => by rw [← e2n c (by omega)]; exact hp c c1 c2
          · rw [e2n b e]
            exact I3 b b1 b2 (by omega) V hV fun c c1 c2 => by rw [← e2n c (by omega)]; exact hp c c1 c2
        · by_cases e : c = b0
          · subst e; rw [e20]; exact q8
          · rw [e2n c e]; exact q7 c (by omega) c2
      · rw [if_pos q0]
        refine zh_ret ⟨rfl, fun V hV => ?_⟩
        by_cases c : ∃ c : Nat, (c : Int) < (b0 : Int) ∧ zb ni c = true
        · obtain ⟨w1, w2, -⟩ := I4 c
          exact q1 _ w1 fun c c1 c2 => w2 c (by omega) c2
        · exact q1 V hV fun d d1 d2 => absurd ⟨d, by omega, d2⟩ c
    · rw [zb_bit0 (t := ni) (i := (b0 : Int)) i0 (by omega) hb, if_pos rfl]
      have ne : ∀ b : Nat, zb ni b = true → (b : Int) < (b0 : Int) + 1 → (b : Int) < (b0 : Int) := fun b b1 b2 => by
        by_cases e : b = b0
        · subst e; exact absurd b1 hb
        · omega
      exact k (f, g, S) hi ⟨sx, fun b b1 b2 b3 => I1 b b1 b2 (by omega), fun b b1 b2 b3 => I2 b b1 b2 (ne b b2 b3), fun b b1 b2 b3 => I3 b b1 b2 (ne b b2 b3), fun ⟨c, c1, c2⟩ => by
        obtain ⟨w1, w2, w3⟩ := I4 ⟨c, ne c c2 c1, c2⟩
        exact ⟨w1, fun d d1 d2 => w2 d (ne d d2 d1) d2, w3⟩⟩
  · obtain ⟨b, b1, b2⟩ := hne
    obtain ⟨w1, w2, w3⟩ := I4 ⟨b, by omega, b2⟩
    refine ⟨⟨w1, fun b b1 b2 V hV hp => ?_⟩, w3⟩
    show (S (b : Int)).toNat ≤ V b
    have e : (S (b : Int)).toNat = sx b := w2 b (by omega) b2
    rw [e]
    refine I3 b b1 b2 (by omega) V hV fun c c1 c2 => ?_
    rw [hp c c1 c2]
    exact w2 c (by omega) c2
end YCF
end
section
/-! Whether a tale can be told, and how it is matched: alike. -/
theorem yc_J_cg {z : Int} {J J2 : Int → Int} (h : ∀ i : Int, 0 ≤ i → i < 24 → J i = J2 i) : yc_J z J = yc_J z J2 := by
  funext i j
  rw [Bool.eq_iff_iff, yc_J_t, yc_J_t]
  constructor
  · rintro ⟨p, q, r, s, t⟩; exact ⟨p, q, r, s, by rw [← h i (by omega) (by omega)]; exact t⟩
  · rintro ⟨p, q, r, s, t⟩; exact ⟨p, q, r, s, by rw [h i (by omega) (by omega)]; exact t⟩
theorem ym_A_cg {z ni : Int} {nr J J2 : Int → Int} (h : ∀ i : Int, 0 ≤ i → i < 24 → J i = J2 i) : ym_A z nr J ni = ym_A z nr J2 ni := by
  unfold ym_A
  rw [yc_J_cg h]
theorem ym_F_cg {z ni : Int} {nr J J2 : Int → Int} (h : ∀ i : Int, 0 ≤ i → i < 24 → J i = J2 i) {W : Nat → Nat} (hF : ym_F z nr J ni W) : ym_F z nr J2 ni W := by
  unfold ym_F ym_Y at *
  rw [yc_J_cg h] at hF
  exact hF
theorem yv_il_H {s : Int} {D : Nat → Nat → Bool} {J : Int → Int} (h : yv_il s D J) : (∀ i : Nat, i < 24 → z24 (J i) ∧ zb (J i) i = false) ∧ ∀ i j : Nat, i < 24 → j < 24 → zb (J i) j = zb (J j) i := by
  refine ⟨fun i hi => ⟨(h i hi).1, ?_⟩, fun i j hi hj => ?_⟩
  · rw [(h i hi).2]
    unfold yv_lk
    rw [decide_eq_false (show ¬ i ≠ i from fun w => w rfl), Bool.false_and, Bool.false_and, Bool.and_false]
  · rw [(h i hi).2, (h j hj).2, decide_eq_true hi, decide_eq_true hj]
    unfold yv_lk
    rw [Nat.min_comm i j, Nat.max_comm i j, Bool.and_comm (zb s i)]
    have e : decide (i ≠ j) = decide (j ≠ i) := by
      rw [Bool.eq_iff_iff, decide_eq_true_iff, decide_eq_true_iff]
      exact ⟨fun w => w.symm, fun w => w.symm⟩
    rw [e]
theorem yn_cut {f : Nat → Bool} {n : Nat} (h : ∀ j, n ≤ j → f j = false) : ∀ k : Nat, yn_n f (n + k) = yn_n f n
  | 0 => rfl
  | k + 1 => by
    show yn_n f (n + k) + (if f (n + k) = true then 1 else 0) = yn_n f n
    rw [yn_cut h k, h (n + k) (by omega), if_neg (by decide)]; omega
section YTT
variable {n ni : Int} {nr fr to : Int → Int}
theorem yk_tl_8 (tl : yk_tl n ni nr fr to) : ∀ b, zb ni b = true → b < 8 := fun b hb => by
  obtain ⟨-, hft, -, -, hb2, -⟩ := tl
  obtain ⟨i, i0, i1, hi⟩ := (hb2 b).mp hb
  obtain ⟨⟨a1, a2⟩, ⟨b1, b2⟩, -⟩ := hft i i0 i1
  rcases hi with hi | hi <;> omega
theorem yk_tl_ne (tl : yk_tl n ni nr fr to) (hn : n ≠ 0) : ∃ b : Nat, b < 8 ∧ zb ni b = true := by
  obtain ⟨⟨n0, -⟩, hft, -, -, hb2, -⟩ := id tl
  obtain ⟨⟨a1, a2⟩, -⟩ := hft 0 (Int.le_refl _) (by omega)
  exact ⟨(fr 0).toNat, by omega, (hb2 _).mpr ⟨0, Int.le_refl _, by omega, .inl (by omega)⟩⟩
end YTT
def ym_tv (L : zLW) (tS t h u cl sc sr : Int) (co ro br nr : Int → Int) (ni p : Int) : Prop := ∃ z J, yv_is L tS t h u cl sc sr co ro br (p % 24) (p / 24) z ∧ yv_il z (yv_D L h u co ro br (p % 24) (p / 24)) J ∧ 0 < ym_A z nr J ni
theorem ym_tv_i {L : zLW} {tS t h u cl sc sr : Int} {co ro br nr J : Int → Int} {ni p z : Int} (hz : yv_is L tS t h u cl sc sr co ro br (p % 24) (p / 24) z) (hJ : yv_il z (yv_D L h u co ro br (p % 24) (p / 24)) J) : ym_tv L tS t h u cl sc sr co ro br nr ni p ↔ 0 < ym_A z nr J ni := by
  constructor
  · rintro ⟨z2, J2, h1, h2, h3⟩
    have e := yv_is_eq h1 hz
    subst e
    rw [ym_A_cg (yv_il_eq hJ h2)]; exact h3
  · intro h3; exact ⟨z, J, hz, hJ, h3⟩
section YTV
variable {L : zLW} {K V kd fr hf to C mk mf mh mt : Int → Int} {nc tS tL sP lP mc : Int} {t h u cl sc sr ch ts n ni p : Int} {co ro br wc wr m gp gl nr tf tt : Int → Int}
theorem yw_cbtXE (R : yl_R L K V nc tS tL sP lP kd fr hf to mc C mk mf mh mt) (k : yk_sky t h u cl sc sr ch co ro br wc wr m) (tl : yk_tl n ni nr tf tt) (p1 : 0 ≤ p) (p2 : p < 288) {vx vy sh as ho f dE : Int} {g S J pa ph may tw so : Int → Int} (hc : yv_ca L sP h u co ro br as ho) (hp : yv_cp L lP h u co ro br pa ph) (hs : yw_so so) :
    zh_ok (zf_X_canBeTold p vx vy h u sh t sc sr cl tS as ho nc f sP ni tL lP dE g co ro br kd hf to K S V J pa ph may nr tw so) fun o => (yv_ca L sP h u co ro br o.2.2.2.2.1 o.2.2.2.2.2.1 ∧ yv_cp L lP h u co ro br o.2.2.2.2.2.2.2.2.2.2.2.1 o.2.2.2.2.2.2.2.2.2.2.2.2.1 ∧ yw_so o.2.2.2.2.2.2.2.2.2.2.2.2.2.2.2) ∧ ((o.1 = 1 ∧ ym_tv L tS t h u cl sc sr co ro br nr ni p) ∨ (o.1 = 0 ∧ ¬ ym_tv L tS t h u cl sc sr co ro br nr ni p)) := by
  refine zh_and (yw_cbtX R k p1 p2 hc hp hs) ?_
  unfold zf_X_canBeTold
  rw [ze_X_columnOf p1 p2, zl_b, ze_X_rowOf p1 p2, zl_b]
  obtain ⟨s', as', ho', a', g', S', e1, i1, c1⟩ := yx_look (f2 := vx) (f3 := vy) (f6 := sh) (f := f) (g := g) (S := S) (x := p % 24) (y := p / 24) R k (by omega) (by omega) (by omega) (by omega) hc
  obtain ⟨f', J', g2, pa', ph', S2, e2, l2, c2⟩ := yx_draw (s := s') (f := a') (J := J) (g := g') (S := S') (x := p % 24) (y := p / 24) R k hp
  have hni := tl.2.2.2.1
  have hz := i1.1
  obtain ⟨H, HN⟩ := yk_tl_H tl (yv_il_H l2).1 (yv_il_H l2).2
  rw [e1, zl_b]
  dsimp only
  rw [ze_bc hz, zl_b, ze_bc hni, zl_b]
  refine zh_ite (fun hlt => zh_ret (.inr ⟨rfl, ?_⟩)) fun hge => ?_
  · rw [ym_tv_i i1 l2]
    have few : ym_A s' nr J' ni = 0 := yc_few (yc_N_s H) (yc_J_s H) (z := zb s') yc_ls_nd (fun _ _ j hj => hj) (by
      rw [yc_ls_len]
      rw [yn_sum hz.1 (by have := hz.2; omega) 24, yn_sum hni.1 (by have := hni.2; omega) 24, yn_cut (f := zb ni) (n := 8) (fun j hj => Bool.eq_false_iff.mpr fun w => by have := yk_tl_8 tl j w; omega) 16] at hlt
      exact hlt)
    omega
  · rw [e2, zl_b]
    dsimp only
    refine zh_bind (ym_count H HN hz hni (yk_tl_8 tl) (most := 1) (f2 := dE) (g1 := may) (g3 := tw) (g4 := so) (by decide) (by decide)) fun r8 h8 => ?_
    obtain ⟨q1, -⟩ := h8
    have ed := ym_tv_i (nr := nr) (ni := ni) i1 l2
    refine zh_ite (fun hp => zh_ret (.inl ⟨rfl, ed.mpr ?_⟩)) fun hn => zh_ret (.inr ⟨rfl, fun w => ?_⟩)
    · rw [q1] at hp
      split at hp <;> omega
    · have := ed.mp w
      rw [q1] at hn
      split at hn <;> omega
theorem yw_cbtME (R : yl_R L K V nc tS tL sP lP kd fr hf to mc C mk mf mh mt) (k : yk_sky t h u cl sc sr ch co ro br wc wr m) (tl : yk_tl n ni nr tf tt) (hn : n ≠ 0) (p1 : 0 ≤ p) (p2 : p < 288) {f1 f2 : Int} {g S J nA sF fF : Int → Int} :
    zh_ok (zf_M_canBeTold p mc f1 f2 ni n m mk g mh mt C S J nA sF tf tt fF) fun o => ((o.1 = 1 ∧ ym_tv L tS t h u cl sc sr co ro br nr ni p) ∨ (o.1 = 0 ∧ ¬ ym_tv L tS t h u cl sc sr co ro br nr ni p)) ∧ yv_is L tS t h u cl sc sr co ro br (p % 24) (p / 24) o.2.1 := by
  unfold zf_M_canBeTold
  obtain ⟨s', g', S', J', e1, i1, l1⟩ := ym_looks (f1 := f1) (g := g) (S := S) (J := J) (x := p % 24) (y := p / 24) R k (by omega) (by omega) (by omega) (by omega)
  rw [show 24 * (p / 24) + p % 24 = p by omega] at e1
  rw [e1, zl_b]
  dsimp only
  obtain ⟨H, -⟩ := yk_tl_H tl (yv_il_H l1).1 (yv_il_H l1).2
  obtain ⟨r, Nn, nm, S2, g2, e2, hnm, -, Ls, eL, er, -⟩ := yw_ways (most := 1) (z := s') (J := J') (f0 := f2) (g0 := nA) (g1 := sF) (g5 := fF) tl hn (by decide) (by decide)
  have hlen : Ls.length = ym_A s' nr J' ni := by rw [eL]; exact yw_L_A tl hnm H
  rw [hlen] at er
  have ed := ym_tv_i (nr := nr) (ni := ni) i1 l1
  rw [e2, zl_b]
  refine zh_ite (fun hp => zh_ret ⟨.inl ⟨rfl, ed.mpr ?_⟩, i1⟩) fun hn => zh_ret ⟨.inr ⟨rfl, fun w => ?_⟩, i1⟩
  · have hp : 0 < r := hp
    rw [er] at hp
    split at hp <;> omega
  · have := ed.mp w
    have hn : ¬ 0 < r := hn
    rw [er] at hn
    split at hn <;> omega
theorem yo_matched (R : yl_R L K V nc tS tL sP lP kd fr hf to mc C mk mf mh mt) (k : yk_sky t h u cl sc sr ch co ro br wc wr m) (tl : yk_tl n ni nr tf tt) {x y w f5 f6 f7 f10 f16 f18 f25 f2 f4 : Int} {g0 g1 g9 g11 g12 g13 g15 g16 e2 e6 e7 e8 e9 e12 : Int → Int} (hs : yw_so g16) :
    ∃ o1 o2, zf_X_matched x y w n f5 f6 f7 h u f10 t sc sr cl tS f16 nc f18 sP tL lP ni f25 g0 g1 co ro br kd hf to K g9 V g11 g12 g13 nr g15 g16 = some o1 ∧ zf_M_matched x y w n mc f2 ni f4 m mk e2 mh mt C e6 e7 e8 e9 tf tt e12 = some o2 ∧ o1.1 = o2.1 ∧ yw_so o1.2.2.2.2.2.2.2.2.2.2.2.2.2.2.2 := by
  obtain ⟨oX, eX, hX⟩ := yw_matchedX (x := x) (y := y) (w := w) (n := n) (f5 := f5) (f6 := f6) (f7 := f7) (f10 := f10) (f16 := f16) (f18 := f18) (f22 := ni) (f25 := f25) (g0 := g0) (g1 := g1) (g9 := g9) (g11 := g11) (g12 := g12) (g13 := g13) (g14 := nr) (g15 := g15) R k hs
  obtain ⟨oM, eM, -⟩ := yw_matchedM (x := x) (y := y) (w := w) (f2 := f2) (f4 := f4) (g2 := e2) (g6 := e6) (g7 := e7) (g8 := e8) (g9 := e9) (g12 := e12) R k tl
  refine ⟨oX, oM, eX, eM, ?_, hX⟩
  unfold zf_X_matched at eX
  unfold zf_M_matched at eM
  rw [ze_X_isPlace, zl_b] at eX
  rw [ze_M_isPlace, zl_b] at eM
  by_cases q : zs_pl x y = 0
  · rw [if_pos q] at eX eM
    cases eX; cases eM; rfl
  rw [if_neg q, ze_X_isWithin, zl_b] at eX
  rw [if_neg q, ze_M_in, zl_b] at eM
  by_cases q2 : zs_in w (-1) 7 = 0
  · rw [if_pos q2] at eX eM
    cases eX; cases eM; rfl
  rw [if_neg q2] at eX eM
  by_cases hn : n = 0
  · rw [if_pos hn] at eX eM
    cases eX; cases eM; rfl
  rw [if_neg hn] at eX eM
  obtain ⟨x1, x2, y1, y2⟩ := zs_pl_ne q
  obtain ⟨w1, w2⟩ := zs_in_ne q2
  have hni := tl.2.2.2.1
  obtain ⟨f3', s', f14', f16', g0', g1', g9', J, g12', e1, i1, l1⟩ := yx_lad (f3 := f5) (f4 := f6) (f5 := f7) (f8 := f10) (f14 := f16) (f16 := f18) (g0 := g0) (g1 := g1) (g9 := g9) (g11 := g11) (g12 := g12) R k x1 (by omega : x ≤ 23) y1 (by omega : y ≤ 11)
  obtain ⟨s2, g', S', J2, e3, i2, l2⟩ := ym_looks (f1 := f2) (g := e2) (S := e6) (J := e7) (x := x) (y := y) R k (by omega) (by omega) (by omega) (by omega)
  have es := yv_is_eq i2 i1
  subst es
  have eJ := yv_il_eq l1 l2
  obtain ⟨H, HN⟩ := yk_tl_H tl (yv_il_H l1).1 (yv_il_H l1).2
  obtain ⟨H2, -⟩ := yk_tl_H tl (yv_il_H l2).1 (yv_il_H l2).2
  rw [e1, zl_b] at eX
  rw [zi_w_id (x := 24 * y) (by omega) (by omega), zi_w_id (x := 24 * y + x) (by omega) (by omega), e3, zl_b] at eM
  dsimp only at eX eM
  by_cases q3 : w = -1
  · rw [if_pos q3] at eX eM
    obtain ⟨r, er, h1, -⟩ := ym_count H HN i1.1 hni (yk_tl_8 tl) (most := 10000) (f2 := f25) (g1 := g13) (g3 := g15) (g4 := g16) (by decide) (by decide)
    obtain ⟨r2, Nn, nm, S2, g3, e4, hnm, -, Ls, eL, er2, -⟩ := yw_ways (most := 10000) (z := s2) (J := J2) (f0 := f4) (g0 := e8) (g1 := e9) (g5 := e12) tl hn (by decide) (by decide)
    have hlen : Ls.length = ym_A s2 nr J2 ni := by rw [eL]; exact yw_L_A tl hnm H2
    rw [er, zl_b] at eX
    rw [e4, zl_b] at eM
    cases eX; cases eM
    show r.1 = r2
    rw [h1, er2, hlen, ym_A_cg eJ]
  · rw [if_neg q3] at eX eM
    rw [ze_has2 (t := ni) (i := w) (by omega) (by omega), zl_b] at eM
    by_cases q4 : zb ni w.toNat = true
    · rw [zb_bit1 (t := ni) (i := w) (by omega) (by omega) q4, if_neg (show ¬ (1 : Int) = 0 by decide)] at eX
      rw [if_pos q4, if_neg (show ¬ (1 : Int) = 0 by decide)] at eM
      obtain ⟨r, er, h1⟩ := ym_first H HN i1.1 hni (yk_tl_8 tl) (yk_tl_ne tl hn) (f2 := f25) (g1 := g13) (g3 := g15) (g4 := g16)
      obtain ⟨r2, Nn, nm, S2, g3, e4, hnm, -, Ls, eL, er2, hQ⟩ := yw_ways (most := 1) (z := s2) (J := J2) (f0 := f4) (g0 := e8) (g1 := e9) (g5 := e12) tl hn (by decide) (by decide)
      have hlen : Ls.length = ym_A s2 nr J2 ni := by rw [eL]; exact yw_L_A tl hnm H2
      rw [er, zl_b] at eX
      rw [e4, zl_b] at eM
      rcases h1 with ⟨h1, hF, hpos⟩ | ⟨h1, hno⟩
      · rw [if_neg (by rw [h1]; decide), zl_ci (show 0 ≤ w by omega) (by omega)] at eX
        have hA : 0 < ym_A s2 nr J2 ni := by
          rw [← ym_A_cg eJ]
          exact yc_pos1 (yc_N_s H) (yc_J_s H) yc_ls_nd hF.1
        have hr2 : 0 < r2 := by rw [er2, hlen]; split <;> omega
        rw [if_pos hr2, zl_ci (show 0 ≤ w by omega) (by omega)] at eM
        cases eX; cases eM
        show r.2.2.2.2 w = g3 w
        obtain ⟨X, hX2⟩ : ∃ X, Ls.head? = some X := by
          cases Ls with
          | nil => rw [← hlen] at hA; exact absurd hA (Nat.lt_irrefl 0)
          | cons X l => exact ⟨X, rfl⟩
        obtain ⟨W, hW, hWX⟩ := yw_L_F tl hnm H2 (z := s2) (by rw [← eL]; exact hX2)
        obtain ⟨j, j0, j1, j2⟩ := hnm.2.2.2 w.toNat (by omega) q4
        have a1 := hQ.1 rfl X hX2 j j0 j1
        have a2 := hWX j j0 j1
        have a3 := ym_F_u (ym_F_cg eJ hF) hW w.toNat (by omega) q4
        have a4 := hpos w.toNat (by omega) q4
        have ew : nm j = w := by omega
        rw [ew] at a1 a2
        rw [Int.toNat_of_nonneg (show 0 ≤ w by omega)] at a3 a4
        have a3 : (r.2.2.2.2 w).toNat = W w.toNat := a3
        omega
      · rw [if_pos h1] at eX
        have hA : ym_A s2 nr J2 ni = 0 := by
          by_cases c : 0 < ym_A s2 nr J2 ni
          · rw [← ym_A_cg eJ] at c
            obtain ⟨W, hW⟩ := yc_pos2 (yc_N_s H) (yc_J_s H) yc_ls_nd c
            exact absurd hW (hno W)
          · omega
        have hr2 : ¬ 0 < r2 := by rw [er2, hlen, hA]; decide
        rw [if_neg hr2] at eM
        cases eX; cases eM; rfl
    · rw [zb_bit0 (t := ni) (i := w) (by omega) (by omega) q4, if_pos rfl] at eX
      rw [if_neg q4, if_pos rfl] at eM
      cases eX; cases eM; rfl
end YTV
end
section
/-! where, when, both: alike. -/
/-- the first place of some, or that there is none -/
def ym_lp (T : Nat → Bool) (N : Nat) (v : Int) : Prop := (v = -2 ∧ ∀ q, q < N → T q = false) ∨ (0 ≤ v ∧ v < N ∧ T v.toNat = true ∧ ∀ q, q < v.toNat → T q = false)
theorem ym_lp_u {T : Nat → Bool} {N : Nat} {v w : Int} (h1 : ym_lp T N v) (h2 : ym_lp T N w) : v = w := by
  rcases h1 with ⟨a1, a2⟩ | ⟨a1, a2, a3, a4⟩
  · rcases h2 with ⟨b1, b2⟩ | ⟨b1, b2, b3, b4⟩
    · omega
    · have := a2 w.toNat (by omega)
      rw [b3] at this; cases this
  · rcases h2 with ⟨b1, b2⟩ | ⟨b1, b2, b3, b4⟩
    · have := b2 v.toNat (by omega)
      rw [a3] at this; cases this
    · by_cases lt : v < w
      · have := b4 v.toNat (by omega)
        rw [a3] at this; cases this
      · by_cases gt : w < v
        · have := a4 w.toNat (by omega)
          rw [b3] at this; cases this
        · omega
def ym_cn (T : Nat → Bool) (i c : Int) : Prop := c = yn_n T i.toNat
theorem ym_cn_0 {T : Nat → Bool} : ym_cn T 0 0 := rfl
theorem ym_cn_in {T : Nat → Bool} {i c : Int} (h : ym_cn T i c) (i0 : 0 ≤ i) : 0 ≤ c ∧ c ≤ i := by
  have := yn_in (f := T) i.toNat
  unfold ym_cn at h
  rw [← h] at this
  omega
theorem ym_cn_s {T : Nat → Bool} {i c d : Int} (h : ym_cn T i c) (i0 : 0 ≤ i) (hd : d = c + (if T i.toNat = true then 1 else 0)) : ym_cn T (i + 1) d := by
  unfold ym_cn at *
  rw [show (i + 1).toNat = i.toNat + 1 by omega, hd, h]; rfl
noncomputable def ym_tb (L : zLW) (tS t h u cl sc sr : Int) (co ro br nr : Int → Int) (ni : Int) (p : Nat) : Bool := @decide (ym_tv L tS t h u cl sc sr co ro br nr ni p) (Classical.propDecidable _)
theorem ym_tb_1 {L : zLW} {tS t h u cl sc sr : Int} {co ro br nr : Int → Int} {ni p : Int} (p0 : 0 ≤ p) : ym_tb L tS t h u cl sc sr co ro br nr ni p.toNat = true ↔ ym_tv L tS t h u cl sc sr co ro br nr ni p := by
  unfold ym_tb
  rw [@decide_eq_true_iff _ (Classical.propDecidable _), Int.toNat_of_nonneg p0]
theorem ym_tb_0 {L : zLW} {tS t h u cl sc sr : Int} {co ro br nr : Int → Int} {ni p : Int} (p0 : 0 ≤ p) (hn : ¬ ym_tv L tS t h u cl sc sr co ro br nr ni p) : ym_tb L tS t h u cl sc sr co ro br nr ni p.toNat = false := by
  rw [Bool.eq_false_iff]
  exact fun w => hn ((ym_tb_1 p0).mp w)
section YTW
variable {L : zLW} {K V kd fr hf to C mk mf mh mt : Int → Int} {nc tS tL sP lP mc : Int} {t h u cl sc sr ch ts n ni p : Int} {co ro br wc wr m gp gl nr tf tt : Int → Int}
theorem yw_whereXE (R : yl_R L K V nc tS tL sP lP kd fr hf to mc C mk mf mh mt) (k : yk_sky t h u cl sc sr ch co ro br wc wr m) (tl : yk_tl n ni nr tf tt) {w f5 f6 f7 f10 f16 f18 f25 : Int} {g0 g1 g9 g11 g12 g13 g15 g16 : Int → Int} (hs : yw_so g16) (hw : w = 0 ∨ w = 1) (hn : n ≠ 0) :
    zh_ok (zf_X_where w n f5 f6 f7 h u f10 t sc sr cl tS f16 nc f18 sP ni tL lP f25 g0 g1 co ro br kd hf to K g9 V g11 g12 g13 nr g15 g16) fun o => yw_so o.2.2.2.2.2.2.2.2.2.2.2.2.2.2.2 ∧ ((w = 0 ∧ ym_cn (ym_tb L tS t h u cl sc sr co ro br nr ni) 288 o.1) ∨ (w = 1 ∧ ym_lp (ym_tb L tS t h u cl sc sr co ro br nr ni) 288 o.1)) := by
  unfold zf_X_where
  rw [ze_X_isWithin, zl_b]
  have hin : ¬ zs_in w 0 1 = 0 := by
    rcases hw with e | e
    · subst e; decide
    · subst e; decide
  rw [if_neg hin, if_neg hn]
  obtain ⟨g0', e0, h0⟩ := ze_open (f := f5) (g := g0)
  rw [e0, zl_b]
  dsimp only
  obtain ⟨T, eT⟩ : ∃ T, T = ym_tb L tS t h u cl sc sr co ro br nr ni := ⟨_, rfl⟩
  rw [← eT]
  have hT1 : ∀ p : Int, 0 ≤ p → ym_tv L tS t h u cl sc sr co ro br nr ni p → T p.toNat = true := fun p p0 hp => by rw [eT]; exact (ym_tb_1 p0).mpr hp
  have hT0 : ∀ p : Int, 0 ≤ p → ¬ ym_tv L tS t h u cl sc sr co ro br nr ni p → T p.toNat = false := fun p p0 hp => by rw [eT]; exact ym_tb_0 p0 hp
  clear eT
  refine zh_sum (Q := fun q => match q with
    | .inl a => yw_so a.2.2.2.2.2.2.2.2.2.2.2.2.2.2.2 ∧ ym_cn T 288 a.1 ∧ (w = 1 → ∀ q, q < 288 → T q = false)
    | .inr b => yw_so b.2.2.2.2.2.2.2.2.2.2.2.2.2.2.2 ∧ w = 1 ∧ ym_lp T 288 b.1) (zh_loop (F := fun n i (a : Int × Int × Int × Int × Int × Int × Int × Int × (Int → Int) × (Int → Int) × (Int → Int) × (Int → Int) × (Int → Int) × (Int → Int) × (Int → Int) × (Int → Int)) => zf_X_where_l0 w h u t sc sr cl tS nc sP ni tL lP co ro br kd hf to K V nr n a.1 i a.2.1 a.2.2.1 a.2.2.2.1 a.2.2.2.2.1 a.2.2.2.2.2.1 a.2.2.2.2.2.2.1 a.2.2.2.2.2.2.2.1 a.2.2.2.2.2.2.2.2.1 a.2.2.2.2.2.2.2.2.2.1 a.2.2.2.2.2.2.2.2.2.2.1 a.2.2.2.2.2.2.2.2.2.2.2.1 a.2.2.2.2.2.2.2.2.2.2.2.2.1 a.2.2.2.2.2.2.2.2.2.2.2.2.2.1 a.2.2.2.2.2.2.2.2.2.2.2.2.2.2.1 a.2.2.2.2.2.2.2.2.2.2.2.2.2.2.2) (N := 288)
      (I := fun i a => (yv_ca L sP h u co ro br a.2.1 a.2.2.2.2.2.1 ∧ yv_cp L lP h u co ro br a.2.2.2.2.2.2.2.2.1 a.2.2.2.2.2.2.2.2.2.2.2.2.1 ∧ yw_so a.2.2.2.2.2.2.2.2.2.2.2.2.2.2.2) ∧ ym_cn T i a.1 ∧ (w = 1 → ∀ q : Nat, (q : Int) < i → T q = false)) (fun n i a i0 i1 ha kk => ?_) 288 0 (0, 0, f6, f7, f10, f16, f18, f25, g0', g1, g9, g11, g12, g13, g15, g16) zi_fu (by decide) (by decide) (by decide) (by decide) ⟨⟨yv_ca0, yv_cp0 h0, hs⟩, ym_cn_0, fun _ q hq => by omega⟩) (fun a ha => zh_ite (fun e => zh_ret ⟨ha.1, .inr ⟨e, .inl ⟨rfl, ha.2.2 e⟩⟩⟩) fun e => zh_ret ⟨ha.1, .inl ⟨hw.elim id fun w => absurd w e, ha.2.1⟩⟩) fun b hb => zh_ret ⟨hb.1, .inr hb.2⟩
  obtain ⟨a1, a2, a3, a4, a5, a6, a7, a8, a9, a10, a11, a12, a13, a14, a15, a16⟩ := a
  obtain ⟨⟨hc, hp, hs⟩, hcn, hno⟩ := ha
  have hcn : ym_cn T i a1 := hcn
  show zh_ok (zf_X_where_l0_b w h u t sc sr cl tS nc sP ni tL lP co ro br kd hf to K V nr (zf_X_where_l0 w h u t sc sr cl tS nc sP ni tL lP co ro br kd hf to K V nr n) a1 i a2 a3 a4 a5 a6 a7 a8 a9 a10 a11 a12 a13 a14 a15 a16) _
  unfold zf_X_where_l0_b
  refine zh_ite (fun hi => ?_) fun hi => zh_ret ?_
  · have ci := ym_cn_in hcn i0
    rw [zi_w_id (x := i + 1) (by omega) (by omega), zi_w_id (x := a1 + 1) (by omega) (by omega)]
    have k2 : ∀ b1 b2 b3 b4 b5 b6 b7 b8 b9 b10 b11 b12 b13 b14 b15 b16, (yv_ca L sP h u co ro br b2 b6 ∧ yv_cp L lP h u co ro br b9 b13 ∧ yw_so b16) → ym_cn T (i + 1) b1 → (w = 1 → ∀ q : Nat, (q : Int) < i + 1 → T q = false) → zh_ok (zf_X_where_l0 w h u t sc sr cl tS nc sP ni tL lP co ro br kd hf to K V nr n b1 (i + 1) b2 b3 b4 b5 b6 b7 b8 b9 b10 b11 b12 b13 b14 b15 b16) _ := fun b1 b2 b3 b4 b5 b6 b7 b8 b9 b10 b11 b12 b13 b14 b15 b16 q1 q2 q3 => kk (b1, b2, b3, b4, b5, b6, b7, b8, b9, b10, b11, b12, b13, b14, b15, b16) hi ⟨q1, q2, q3⟩
    refine zh_bind (yw_cbtXE R k tl i0 hi hc hp hs) fun r6 h6 => ?_
    obtain ⟨h6a, h6b⟩ := h6
    rcases h6b with ⟨c1, c2⟩ | ⟨c1, c2⟩
    · have hti := hT1 i i0 c2
      rw [if_neg (by rw [c1]; decide)]
      refine zh_ite (fun e => zh_ret ⟨h6a.2.2, e, .inr ⟨i0, hi, hti, fun q hq => hno e q (by omega)⟩⟩) fun e => k2 _ _ _ _ _ _ _ _ _ _ _ _ _ _ _ _ h6a (ym_cn_s hcn i0 (by rw [if_pos hti])) fun w => absurd w e
    · have hti := hT0 i i0 c2
      rw [if_pos c1]
      refine k2 _ _ _ _ _ _ _ _ _ _ _ _ _ _ _ _ h6a (ym_cn_s hcn i0 (by rw [if_neg (by rw [hti]; decide)]; omega)) fun e q hq => ?_
      by_cases eq : q = i.toNat
      · subst eq; exact hti
      · exact hno e q (by omega)
  · have e : i = 288 := by omega
    subst e
    exact ⟨hs, hcn, fun e q hq => hno e q (by omega)⟩
theorem yw_whereME (R : yl_R L K V nc tS tL sP lP kd fr hf to mc C mk mf mh mt) (k : yk_sky t h u cl sc sr ch co ro br wc wr m) (tl : yk_tl n ni nr tf tt) {w f2 f3 : Int} {g2 g6 g7 g8 g9 g12 : Int → Int} (hw : w = 0 ∨ w = 1) (hn : n ≠ 0) :
    zh_ok (zf_M_where w n mc f2 f3 ni m mk g2 mh mt C g6 g7 g8 g9 tf tt g12) fun o => (w = 0 ∧ ym_cn (ym_tb L tS t h u cl sc sr co ro br nr ni) 288 o.1) ∨ (w = 1 ∧ ym_lp (ym_tb L tS t h u cl sc sr co ro br nr ni) 288 o.1) := by
  unfold zf_M_where
  rw [ze_M_in, zl_b]
  have hin : ¬ zs_in w 0 1 = 0 := by
    rcases hw with e | e
    · subst e; decide
    · subst e; decide
  rw [if_neg hin, if_neg hn]
  obtain ⟨T, eT⟩ : ∃ T, T = ym_tb L tS t h u cl sc sr co ro br nr ni := ⟨_, rfl⟩
  rw [← eT]
  have hT1 : ∀ p : Int, 0 ≤ p → ym_tv L tS t h u cl sc sr co ro br nr ni p → T p.toNat = true := fun p p0 hp => by rw [eT]; exact (ym_tb_1 p0).mpr hp
  have hT0 : ∀ p : Int, 0 ≤ p → ¬ ym_tv L tS t h u cl sc sr co ro br nr ni p → T p.toNat = false := fun p p0 hp => by rw [eT]; exact ym_tb_0 p0 hp
  clear eT
  refine zh_bind (Q := fun a => ym_cn T 288 a.1 ∧ ym_lp T 288 a.2.1) (zh_loop (F := fun f i (a : Int × Int × Int × Int × (Int → Int) × (Int → Int) × (Int → Int) × (Int → Int) × (Int → Int) × (Int → Int)) => zf_M_where_l0 n mc ni m mk mh mt C tf tt f a.1 a.2.1 i a.2.2.1 a.2.2.2.1 a.2.2.2.2.1 a.2.2.2.2.2.1 a.2.2.2.2.2.2.1 a.2.2.2.2.2.2.2.1 a.2.2.2.2.2.2.2.2.1 a.2.2.2.2.2.2.2.2.2) (N := 288)
    (I := fun i a => ym_cn T i a.1 ∧ ((a.1 = 0 ∧ a.2.1 = -2 ∧ ∀ q : Nat, (q : Int) < i → T q = false) ∨ (0 < a.1 ∧ 0 ≤ a.2.1 ∧ a.2.1 < i ∧ T a.2.1.toNat = true ∧ ∀ q : Nat, q < a.2.1.toNat → T q = false))) (fun f i a i0 i1 ha kk => ?_) 288 0 (0, -2, f2, f3, g2, g6, g7, g8, g9, g12) zi_fu (by decide) (by decide) (by decide) (by decide) ⟨ym_cn_0, .inl ⟨rfl, rfl, fun q hq => by omega⟩⟩) fun q hq => zh_ite (fun e => zh_ret (.inl ⟨e, hq.1⟩)) fun e => zh_ret (.inr ⟨hw.elim (fun w => absurd w e) id, hq.2⟩)
  obtain ⟨a1, a2, a3, a4, a5, a6, a7, a8, a9, a10⟩ := a
  obtain ⟨hcn, hf⟩ := ha
  have hcn : ym_cn T i a1 := hcn
  have hf : (a1 = 0 ∧ a2 = -2 ∧ ∀ q : Nat, (q : Int) < i → T q = false) ∨ (0 < a1 ∧ 0 ≤ a2 ∧ a2 < i ∧ T a2.toNat = true ∧ ∀ q : Nat, q < a2.toNat → T q = false) := hf
  show zh_ok (zf_M_where_l0_b n mc ni m mk mh mt C tf tt (zf_M_where_l0 n mc ni m mk mh mt C tf tt f) a1 a2 i a3 a4 a5 a6 a7 a8 a9 a10) _
  unfold zf_M_where_l0_b
  refine zh_ite (fun hi => ?_) fun hi => zh_ret ?_
  · have ci := ym_cn_in hcn i0
    rw [zi_w_id (x := i + 1) (by omega) (by omega), zi_w_id (x := a1 + 1) (by omega) (by omega)]
    refine zh_bind (yw_cbtME R k tl hn i0 hi) fun r5 h5 => ?_
    rcases h5.1 with ⟨c1, c2⟩ | ⟨c1, c2⟩
    · have hti := hT1 i i0 c2
      rw [if_neg (by rw [c1]; decide)]
      have cs := ym_cn_s hcn i0 (d := a1 + 1) (by rw [if_pos hti])
      refine zh_ite (fun e => kk (_, _, _, _, _, _, _, _, _, _) hi ⟨cs, .inr ⟨by show 0 < a1 + 1; omega, i0, by show i < i + 1; omega, hti, fun q hq => ?_⟩⟩) fun e => kk (_, _, _, _, _, _, _, _, _, _) hi ⟨cs, .inr ?_⟩
      · rcases hf with ⟨b1, b2, b3⟩ | ⟨b1, -⟩
        · exact b3 q (by have hq : q < i.toNat := hq; omega)
        · omega
      · rcases hf with ⟨b1, b2, b3⟩ | ⟨b1, b2, b3, b4, b5⟩
        · exact absurd b1 e
        · exact ⟨by show 0 < a1 + 1; omega, b2, by show a2 < i + 1; omega, b4, b5⟩
    · have hti := hT0 i i0 c2
      rw [if_pos c1]
      refine kk (_, _, _, _, _, _, _, _, _, _) hi ⟨ym_cn_s hcn i0 (by show a1 = a1 + _; rw [if_neg (by rw [hti]; decide)]; omega), ?_⟩
      rcases hf with ⟨b1, b2, b3⟩ | ⟨b1, b2, b3, b4, b5⟩
      · refine .inl ⟨b1, b2, fun q hq => ?_⟩
        by_cases eq : q = i.toNat
        · subst eq; exact hti
        · exact b3 q (by omega)
      · exact .inr ⟨b1, b2, by show a2 < i + 1; omega, b4, b5⟩
  · have e : i = 288 := by omega
    subst e
    refine ⟨hcn, ?_⟩
    rcases hf with ⟨b1, b2, b3⟩ | ⟨b1, b2, b3, b4, b5⟩
    · exact .inl ⟨b2, fun q hq => b3 q (by omega)⟩
    · exact .inr ⟨b2, b3, b4, b5⟩
theorem yo_where (R : yl_R L K V nc tS tL sP lP kd fr hf to mc C mk mf mh mt) (k : yk_sky t h u cl sc sr ch co ro br wc wr m) (tl : yk_tl n ni nr tf tt) {w f5 f6 f7 f10 f16 f18 f25 f2 f3 : Int} {g0 g1 g9 g11 g12 g13 g15 g16 e2 e6 e7 e8 e9 e12 : Int → Int} (hs : yw_so g16) :
    ∃ o1 o2, zf_X_where w n f5 f6 f7 h u f10 t sc sr cl tS f16 nc f18 sP ni tL lP f25 g0 g1 co ro br kd hf to K g9 V g11 g12 g13 nr g15 g16 = some o1 ∧ zf_M_where w n mc f2 f3 ni m mk e2 mh mt C e6 e7 e8 e9 tf tt e12 = some o2 ∧ o1.1 = o2.1 ∧ yw_so o1.2.2.2.2.2.2.2.2.2.2.2.2.2.2.2 := by
  obtain ⟨oX, eX, hX⟩ := yw_whereX (w := w) (n := n) (f5 := f5) (f6 := f6) (f7 := f7) (f10 := f10) (f16 := f16) (f18 := f18) (f20 := ni) (f25 := f25) (g0 := g0) (g1 := g1) (g9 := g9) (g11 := g11) (g12 := g12) (g13 := g13) (g14 := nr) (g15 := g15) R k hs
  obtain ⟨oM, eM, -⟩ := yw_whereM (w := w) (f2 := f2) (f3 := f3) (g2 := e2) (g6 := e6) (g7 := e7) (g8 := e8) (g9 := e9) (g12 := e12) R k tl
  refine ⟨oX, oM, eX, eM, ?_, hX⟩
  by_cases q : zs_in w 0 1 = 0
  · unfold zf_X_where at eX
    unfold zf_M_where at eM
    rw [ze_X_isWithin, zl_b, if_pos q] at eX
    rw [ze_M_in, zl_b, if_pos q] at eM
    cases eX; cases eM; rfl
  by_cases hn : n = 0
  · unfold zf_X_where at eX
    unfold zf_M_where at eM
    rw [ze_X_isWithin, zl_b, if_neg q, if_pos hn] at eX
    rw [ze_M_in, zl_b, if_neg q, if_pos hn] at eM
    cases eX; cases eM; rfl
  have hw : w = 0 ∨ w = 1 := by have := zs_in_ne q; omega
  obtain ⟨o1, e1, h1, h1b⟩ := yw_whereXE (f5 := f5) (f6 := f6) (f7 := f7) (f10 := f10) (f16 := f16) (f18 := f18) (f25 := f25) (g0 := g0) (g1 := g1) (g9 := g9) (g11 := g11) (g12 := g12) (g13 := g13) (g15 := g15) R k tl hs hw hn
  obtain ⟨o2, e3, h2⟩ := yw_whereME (f2 := f2) (f3 := f3) (g2 := e2) (g6 := e6) (g7 := e7) (g8 := e8) (g9 := e9) (g12 := e12) R k tl hw hn
  rw [eX] at e1
  rw [eM] at e3
  cases e1; cases e3
  rcases h1b with ⟨a1, a2⟩ | ⟨a1, a2⟩
  · rcases h2 with ⟨b1, b2⟩ | ⟨b1, b2⟩
    · exact a2.trans b2.symm
    · omega
  · rcases h2 with ⟨b1, b2⟩ | ⟨b1, b2⟩
    · omega
    · exact ym_lp_u a2 b2
end YTW
end
section
/-! when, both: alike. -/
def ym_hb (B : Nat → Bool) (s : Int) : Prop := z24 s ∧ ∀ j, zb s j = (decide (j < 24) && B j)
theorem ym_hb_u {B : Nat → Bool} {s v : Int} (h1 : ym_hb B s) (h2 : ym_hb B v) : s = v := z24_ext h1.1 h2.1 fun j _ => by rw [h1.2, h2.2]
section YTX
variable {L : zLW} {K V kd fr hf to C mk mf mh mt : Int → Int} {nc tS tL sP lP mc : Int} {t h u cl sc sr ch ts n ni p : Int} {co ro br wc wr m gp gl nr tf tt : Int → Int}
theorem yw_whenXE (R : yl_R L K V nc tS tL sP lP kd fr hf to mc C mk mf mh mt) (k : yk_sky t h u cl sc sr ch co ro br wc wr m) (tl : yk_tl n ni nr tf tt) {x y f3 f5 f7 f9 f11 f13 f15 f19 f20 f21 f22 f24 f26 f33 : Int} {g1 g3 g5 g7 g9 g10 g11 g16 g18 g19 g20 g22 g23 : Int → Int} (hs : yw_so g23) (q : ¬ zs_pl x y = 0) (hn : n ≠ 0) {B : Nat → Bool}
    (hB : ∀ i : Nat, i < 24 → (B i = true ↔ ym_tv L tS t i u cl sc sr (zv_cpy co g1 24) (zv_cpy ro g3 24) (zv_cpy br g5 24) nr ni (24 * y + x))) :
    zh_ok (zf_X_when x y n t f3 h f5 u f7 cl f9 sc f11 sr f13 ch f15 f19 f20 f21 f22 tS f24 nc f26 sP ni tL lP f33 co g1 ro g3 br g5 wc g7 wr g9 g10 g11 kd hf to K g16 V g18 g19 g20 nr g22 g23) fun o => ym_hb B o.1 := by
  unfold zf_X_when
  rw [ze_X_isPlace, zl_b, if_neg q, if_neg hn]
  obtain ⟨x1, x2, y1, y2⟩ := zs_pl_ne q
  unfold zf_Sky_copyFrom
  rw [zl_b]
  dsimp only
  have k2 : yk_sky t h u cl sc sr ch (zv_cpy co g1 24) (zv_cpy ro g3 24) (zv_cpy br g5 24) (zv_cpy wc g7 24) (zv_cpy wr g9 24) m := yk_sky_cg k (fun j j1 j2 => zv_cpy_in j2) (fun j j1 j2 => zv_cpy_in j2) (fun j j1 j2 => zv_cpy_in j2) (fun j j1 j2 => zv_cpy_in j2) (fun j j1 j2 => zv_cpy_in j2) (fun _ _ _ => rfl)
  generalize zv_cpy co g1 24 = co2 at k2 hB ⊢
  generalize zv_cpy ro g3 24 = ro2 at k2 hB ⊢
  generalize zv_cpy br g5 24 = br2 at k2 hB ⊢
  generalize zv_cpy wc g7 24 = wc2 at k2 ⊢
  generalize zv_cpy wr g9 24 = wr2 at k2 ⊢
  refine zh_bind (Q := fun q => ym_hb B q.1) (zh_loop (F := fun n i (a : Int × Int × Int × Int × Int × Int × Int × Int × Int × (Int → Int) × (Int → Int) × (Int → Int) × (Int → Int) × (Int → Int) × (Int → Int) × (Int → Int) × (Int → Int)) => zf_X_when_l0 x y t u cl sc sr tS nc sP ni tL lP co2 ro2 br2 kd hf to K V nr n a.1 i a.2.1 a.2.2.1 a.2.2.2.1 a.2.2.2.2.1 a.2.2.2.2.2.1 a.2.2.2.2.2.2.1 a.2.2.2.2.2.2.2.1 a.2.2.2.2.2.2.2.2.1 a.2.2.2.2.2.2.2.2.2.1 a.2.2.2.2.2.2.2.2.2.2.1 a.2.2.2.2.2.2.2.2.2.2.2.1 a.2.2.2.2.2.2.2.2.2.2.2.2.1 a.2.2.2.2.2.2.2.2.2.2.2.2.2.1 a.2.2.2.2.2.2.2.2.2.2.2.2.2.2.1 a.2.2.2.2.2.2.2.2.2.2.2.2.2.2.2.1 a.2.2.2.2.2.2.2.2.2.2.2.2.2.2.2.2) (N := 24)
      (I := fun i a => (z24 a.1 ∧ ∀ j, zb a.1 j = (decide (j < i.toNat) && B j)) ∧ yw_so a.2.2.2.2.2.2.2.2.2.2.2.2.2.2.2.2) (fun n i a i0 i1 ha kk => ?_) 24 0 (0, h, f19, f20, f21, f22, f24, f26, f33, g10, g11, g16, g18, g19, g20, g22, g23) zi_fu (by decide) (by decide) (by decide) (by decide) ⟨⟨z24_0, fun j => by rw [zb_0, decide_eq_false (show ¬ j < Int.toNat 0 from Nat.not_lt_zero j), Bool.false_and]⟩, hs⟩) fun q hq => zh_ret hq
  obtain ⟨a1, a2, a3, a4, a5, a6, a7, a8, a9, a10, a11, a12, a13, a14, a15, a16, a17⟩ := a
  obtain ⟨⟨ha1, ha2⟩, ha⟩ := ha
  show zh_ok (zf_X_when_l0_b x y t u cl sc sr tS nc sP ni tL lP co2 ro2 br2 kd hf to K V nr (zf_X_when_l0 x y t u cl sc sr tS nc sP ni tL lP co2 ro2 br2 kd hf to K V nr n) a1 i a2 a3 a4 a5 a6 a7 a8 a9 a10 a11 a12 a13 a14 a15 a16 a17) _
  unfold zf_X_when_l0_b
  obtain ⟨v, rfl⟩ : ∃ v : Nat, i = v := ⟨i.toNat, by omega⟩
  have ha2 : ∀ j, zb a1 j = (decide (j < v) && B j) := ha2
  refine zh_ite (fun hi => ?_) fun hi => zh_ret ⟨ha1, fun j => by rw [ha2, show v = 24 by omega]⟩
  have hv : v < 24 := by omega
  obtain ⟨gA, e0, h0⟩ := ze_open (f := a3) (g := a10)
  rw [e0, zl_b, ze_X_placeOf x1 x2 y1 y2, zl_b, zi_w_id (x := (v : Int) + 1) (by omega) (by omega)]
  dsimp only
  have k3 := yk_hour (h2 := (v : Int)) (u2 := u) (m2 := zv_up m 128 (v : Int)) k2 i0 (by omega) zv_up_s (by rw [zv_up_n (by decide)]; exact k2.2.2.1) (fun j j1 _ => zv_up_n j1)
  have grow := zb_grow (s := a1) (i := (v : Int)) (n := v) (P := B) rfl hv ha2
  have e1 : ((v : Int) + 1).toNat = v + 1 := by omega
  have k4 : ∀ b1 b2 b3 b4 b5 b6 b7 b8 b9 b10 b11 b12 b13 b14 b15 b16 b17, z24 b1 → (∀ j, zb b1 j = (decide (j < v + 1) && B j)) → yw_so b17 → zh_ok (zf_X_when_l0 x y t u cl sc sr tS nc sP ni tL lP co2 ro2 br2 kd hf to K V nr n b1 ((v : Int) + 1) b2 b3 b4 b5 b6 b7 b8 b9 b10 b11 b12 b13 b14 b15 b16 b17) _ := fun b1 b2 b3 b4 b5 b6 b7 b8 b9 b10 b11 b12 b13 b14 b15 b16 b17 q1 q2 q3 => kk (b1, b2, b3, b4, b5, b6, b7, b8, b9, b10, b11, b12, b13, b14, b15, b16, b17) hi ⟨⟨q1, by rw [e1]; exact q2⟩, q3⟩
  refine zh_bind (yw_cbtXE R k3 tl (by omega) (by omega) yv_ca0 (yv_cp0 h0) ha) fun r8 h8 => ?_
  rcases h8.2 with ⟨c1, c2⟩ | ⟨c1, c2⟩
  · rw [if_pos ((hB v hv).mpr c2)] at grow
    rw [if_neg (by rw [c1]; decide)]
    exact k4 _ _ _ _ _ _ _ _ _ _ _ _ _ _ _ _ _ (z24_or ha1 (z24_shl i0 hi)) grow h8.1.2.2
  · rw [if_neg fun w => c2 ((hB v hv).mp w)] at grow
    rw [if_pos c1]
    exact k4 _ _ _ _ _ _ _ _ _ _ _ _ _ _ _ _ _ ha1 grow h8.1.2.2
theorem yw_whenME (R : yl_R L K V nc tS tL sP lP kd fr hf to mc C mk mf mh mt) (k : yk_sky t h u cl sc sr ch co ro br wc wr m) (tl : yk_tl n ni nr tf tt) {x y f2 f3 : Int} {g2 g6 g7 g8 g9 g12 : Int → Int} (q : ¬ zs_pl x y = 0) (hn : n ≠ 0) {B : Nat → Bool}
    (hB : ∀ i : Nat, i < 24 → (B i = true ↔ ym_tv L tS t i u cl sc sr co ro br nr ni (24 * y + x))) :
    zh_ok (zf_M_when x y n mc f2 f3 ni m mk g2 mh mt C g6 g7 g8 g9 tf tt g12) fun o => ym_hb B o.1 := by
  unfold zf_M_when
  rw [ze_M_isPlace, zl_b, if_neg q, if_neg hn]
  obtain ⟨x1, x2, y1, y2⟩ := zs_pl_ne q
  refine zh_bind (Q := fun q => ym_hb B q.1) (zh_loop (F := fun f i (a : Int × Int × Int × (Int → Int) × (Int → Int) × (Int → Int) × (Int → Int) × (Int → Int) × (Int → Int) × (Int → Int)) => zf_M_when_l0 x y n mc ni mk mh mt C tf tt f a.1 i a.2.1 a.2.2.1 a.2.2.2.1 a.2.2.2.2.1 a.2.2.2.2.2.1 a.2.2.2.2.2.2.1 a.2.2.2.2.2.2.2.1 a.2.2.2.2.2.2.2.2.1 a.2.2.2.2.2.2.2.2.2) (N := 24) (I := fun i a => (z24 a.1 ∧ ∀ j, zb a.1 j = (decide (j < i.toNat) && B j)) ∧ ∀ j, j ≠ 128 → a.2.2.2.1 j = m j) (fun f i a i0 i1 ha kk => ?_) 24 0 (0, f2, f3, m, g2, g6, g7, g8, g9, g12) zi_fu (by decide) (by decide) (by decide) (by decide) ⟨⟨z24_0, fun j => by rw [zb_0, decide_eq_false (show ¬ j < Int.toNat 0 from Nat.not_lt_zero j), Bool.false_and]⟩, fun _ _ => rfl⟩) fun q hq => zh_ret hq
  obtain ⟨a1, a2, a3, a4, a5, a6, a7, a8, a9, a10⟩ := a
  obtain ⟨⟨ha1, ha2⟩, ha⟩ := ha
  show zh_ok (zf_M_when_l0_b x y n mc ni mk mh mt C tf tt (zf_M_when_l0 x y n mc ni mk mh mt C tf tt f) a1 i a2 a3 a4 a5 a6 a7 a8 a9 a10) _
  unfold zf_M_when_l0_b
  obtain ⟨v, rfl⟩ : ∃ v : Nat, i = v := ⟨i.toNat, by omega⟩
  have ha2 : ∀ j, zb a1 j = (decide (j < v) && B j) := ha2
  have ha : ∀ j, j ≠ 128 → a4 j = m j := ha
  refine zh_ite (fun hi => ?_) fun hi => zh_ret ⟨ha1, fun j => by rw [ha2, show v = 24 by omega]⟩
  have hv : v < 24 := by omega
  have hm : ∀ j, j ≠ 128 → zv_up a4 128 (v : Int) j = m j := fun j j1 => by rw [zv_up_n j1]; exact ha j j1
  have k2 := yk_hour (h2 := (v : Int)) (u2 := u) (m2 := zv_up a4 128 (v : Int)) k i0 (by omega) zv_up_s (by rw [hm 129 (by decide)]; exact k.2.2.1) (fun j j1 _ => hm j j1)
  rw [zi_w_id (x := (v : Int) + 1) (by omega) (by omega), zi_w_id (x := 24 * y) (by omega) (by omega), zi_w_id (x := 24 * y + x) (by omega) (by omega)]
  have grow := zb_grow (s := a1) (i := (v : Int)) (n := v) (P := B) rfl hv ha2
  have e1 : ((v : Int) + 1).toNat = v + 1 := by omega
  refine zh_bind (yw_cbtME R k2 tl hn (by omega) (by omega)) fun r5 h5 => ?_
  rcases h5.1 with ⟨c1, c2⟩ | ⟨c1, c2⟩
  · rw [if_pos ((hB v hv).mpr c2)] at grow
    rw [if_neg (by rw [c1]; decide)]
    exact kk (_, _, _, _, _, _, _, _, _, _) hi ⟨⟨z24_or ha1 (z24_shl i0 hi), by rw [e1]; exact grow⟩, hm⟩
  · rw [if_neg fun w => c2 ((hB v hv).mp w)] at grow
    rw [if_pos c1]
    exact kk (_, _, _, _, _, _, _, _, _, _) hi ⟨⟨ha1, by rw [e1]; exact grow⟩, hm⟩
theorem yo_when (R : yl_R L K V nc tS tL sP lP kd fr hf to mc C mk mf mh mt) (k : yk_sky t h u cl sc sr ch co ro br wc wr m) (tl : yk_tl n ni nr tf tt) {x y f3 f5 f7 f9 f11 f13 f15 f19 f20 f21 f22 f24 f26 f33 f1 f2 : Int} {g1 g3 g5 g7 g9 g10 g11 g16 g18 g19 g20 g22 g23 e2 e6 e7 e8 e9 e12 : Int → Int} (hs : yw_so g23) :
    ∃ o1 o2, zf_X_when x y n t f3 h f5 u f7 cl f9 sc f11 sr f13 ch f15 f19 f20 f21 f22 tS f24 nc f26 sP ni tL lP f33 co g1 ro g3 br g5 wc g7 wr g9 g10 g11 kd hf to K g16 V g18 g19 g20 nr g22 g23 = some o1 ∧ zf_M_when x y n mc f1 f2 ni m mk e2 mh mt C e6 e7 e8 e9 tf tt e12 = some o2 ∧ o1.1 = o2.1 ∧ yw_so o1.2.2.2.2.2.2.2.2.2.2.2.2.2.2.2.2.2.2.2.2.2.2.2.2.2.2.2 ∧ ∀ j, o2.2.2.2.1 j = m j := by
  obtain ⟨oX, eX, hX⟩ := yw_whenX (x := x) (y := y) (n := n) (f3 := f3) (f5 := f5) (f7 := f7) (f9 := f9) (f11 := f11) (f13 := f13) (f15 := f15) (f19 := f19) (f20 := f20) (f21 := f21) (f22 := f22) (f24 := f24) (f26 := f26) (f28 := ni) (f33 := f33) (g1 := g1) (g3 := g3) (g5 := g5) (g7 := g7) (g9 := g9) (g10 := g10) (g11 := g11) (g16 := g16) (g18 := g18) (g19 := g19) (g20 := g20) (g21 := nr) (g22 := g22) R k hs
  obtain ⟨oM, eM, hM⟩ := yw_whenM (x := x) (y := y) (f2 := f1) (f3 := f2) (g2 := e2) (g6 := e6) (g7 := e7) (g8 := e8) (g9 := e9) (g12 := e12) R k tl
  refine ⟨oX, oM, eX, eM, ?_, hX, hM⟩
  by_cases q : zs_pl x y = 0
  · unfold zf_X_when at eX
    unfold zf_M_when at eM
    rw [ze_X_isPlace, zl_b, if_pos q] at eX
    rw [ze_M_isPlace, zl_b, if_pos q] at eM
    cases eX; cases eM; rfl
  by_cases hn : n = 0
  · unfold zf_X_when at eX
    unfold zf_M_when at eM
    rw [ze_X_isPlace, zl_b, if_neg q, if_pos hn] at eX
    rw [ze_M_isPlace, zl_b, if_neg q, if_pos hn] at eM
    cases eX; cases eM; rfl
  have k2 : yk_sky t h u cl sc sr ch (zv_cpy co g1 24) (zv_cpy ro g3 24) (zv_cpy br g5 24) (zv_cpy wc g7 24) (zv_cpy wr g9 24) m := yk_sky_cg k (fun j j1 j2 => zv_cpy_in j2) (fun j j1 j2 => zv_cpy_in j2) (fun j j1 j2 => zv_cpy_in j2) (fun j j1 j2 => zv_cpy_in j2) (fun j j1 j2 => zv_cpy_in j2) (fun _ _ _ => rfl)
  have hB : ∀ i : Nat, i < 24 → ((fun i : Nat => @decide (ym_tv L tS t i u cl sc sr (zv_cpy co g1 24) (zv_cpy ro g3 24) (zv_cpy br g5 24) nr ni (24 * y + x)) (Classical.propDecidable _)) i = true ↔ ym_tv L tS t i u cl sc sr (zv_cpy co g1 24) (zv_cpy ro g3 24) (zv_cpy br g5 24) nr ni (24 * y + x)) := fun i _ => by
    exact @decide_eq_true_iff _ (Classical.propDecidable _)
  obtain ⟨o1, e1, h1⟩ := yw_whenXE (f3 := f3) (f5 := f5) (f7 := f7) (f9 := f9) (f11 := f11) (f13 := f13) (f15 := f15) (f19 := f19) (f20 := f20) (f21 := f21) (f22 := f22) (f24 := f24) (f26 := f26) (f33 := f33) (g1 := g1) (g3 := g3) (g5 := g5) (g7 := g7) (g9 := g9) (g10 := g10) (g11 := g11) (g16 := g16) (g18 := g18) (g19 := g19) (g20 := g20) (g22 := g22) R k tl hs q hn hB
  obtain ⟨o2, e3, h2⟩ := yw_whenME (f2 := f1) (f3 := f2) (g2 := e2) (g6 := e6) (g7 := e7) (g8 := e8) (g9 := e9) (g12 := e12) R k2 tl q hn hB
  rw [eX] at e1
  rw [eM] at e3
  cases e1; cases e3
  exact ym_hb_u h1 h2
theorem yo_both (R : yl_R L K V nc tS tL sP lP kd fr hf to mc C mk mf mh mt) (k : yk_sky t h u cl sc sr ch co ro br wc wr m) (tl : yk_tl n ni nr tf tt) {x y w f3 f4 f5 f8 f14 f16 f22 f23 f24 f25 f26 f31 f1 f2 : Int} {g0 g1 g9 g11 g12 g13 g14 g15 g16 g18 g19 e2 e6 e7 e8 e9 e10 e13 : Int → Int} (hs : yw_so g19) :
    ∃ o1 o2, zf_X_both x y w f3 f4 f5 h u f8 t sc sr cl tS f14 nc f16 sP tL lP f22 f23 f24 f25 f26 n f31 ni g0 g1 co ro br kd hf to K g9 V g11 g12 g13 g14 g15 g16 nr g18 g19 = some o1 ∧ zf_M_both x y w mc f1 n f2 ni m mk e2 mh mt C e6 e7 e8 e9 e10 tf tt e13 = some o2 ∧ o1.1 = o2.1 ∧ yw_so o1.2.2.2.2.2.2.2.2.2.2.2.2.2.2.2.2.2.2.2.2.2.2.2 := by
  obtain ⟨oX, eX, hX⟩ := yw_bothX (x := x) (y := y) (w := w) (n := n) (f3 := f3) (f4 := f4) (f5 := f5) (f8 := f8) (f14 := f14) (f16 := f16) (f22 := f22) (f23 := f23) (f24 := f24) (f25 := f25) (f26 := f26) (f31 := f31) (f32 := ni) (g0 := g0) (g1 := g1) (g9 := g9) (g11 := g11) (g12 := g12) (g13 := g13) (g14 := g14) (g15 := g15) (g16 := g16) (g17 := nr) (g18 := g18) R k hs
  obtain ⟨oM, eM, -⟩ := yw_bothM (x := x) (y := y) (w := w) (f1 := f1) (f3 := f2) (g2 := e2) (g6 := e6) (g7 := e7) (g8 := e8) (g9 := e9) (g10 := e10) (g13 := e13) R k tl
  refine ⟨oX, oM, eX, eM, ?_, hX⟩
  unfold zf_X_both at eX
  unfold zf_M_both at eM
  rw [ze_X_isWithin, zl_b] at eX
  rw [ze_M_in, zl_b] at eM
  by_cases q1 : zs_in x 0 287 = 0
  · rw [if_pos q1] at eX eM
    cases eX; cases eM; rfl
  rw [if_neg q1, ze_X_isWithin, zl_b] at eX
  rw [if_neg q1, ze_M_in, zl_b] at eM
  by_cases q2 : zs_in y 0 287 = 0
  · rw [if_pos q2] at eX eM
    cases eX; cases eM; rfl
  rw [if_neg q2, ze_X_isWithin, zl_b] at eX
  rw [if_neg q2, ze_M_in, zl_b] at eM
  by_cases q3 : zs_in w 0 2 = 0
  · rw [if_pos q3] at eX eM
    cases eX; cases eM; rfl
  rw [if_neg q3] at eX eM
  obtain ⟨x1, x2⟩ := zs_in_ne q1
  obtain ⟨y1, y2⟩ := zs_in_ne q2
  have hni := tl.2.2.2.1
  obtain ⟨f3', s1, f14', f16', g0', g1', g9', J1, g12', a1, i1, l1⟩ := yx_lad (f3 := f3) (f4 := f4) (f5 := f5) (f8 := f8) (f14 := f14) (f16 := f16) (g0 := g0) (g1 := g1) (g9 := g9) (g11 := g11) (g12 := g12) (x := x % 24) (y := x / 24) R k (by omega) (by omega) (by omega) (by omega)
  obtain ⟨f3'', s2, f14'', f16'', g0'', g1'', g9'', J2, g12'', a2, i2, l2⟩ := yx_lad (f3 := f22) (f4 := f23) (f5 := f24) (f8 := f25) (f14 := f26) (f16 := f16') (g0 := g13) (g1 := g1') (g9 := g9') (g11 := g14) (g12 := g15) (x := y % 24) (y := y / 24) R k (by omega) (by omega) (by omega) (by omega)
  obtain ⟨G, a3, hG⟩ := yb_keep (f0 := s1) (f1 := s2) (g := J1) (g1 := J2)
  obtain ⟨g2', g6', Hh, g8', a4, hH⟩ := ym_both (p := x) (q := y) (f1 := f1) (g2 := e2) (g6 := e6) (g7 := e7) (g8 := e8) R k x1 (by omega) y1 (by omega) i1 l1 i2 l2
  have eJ : ∀ i : Int, 0 ≤ i → i < 24 → G i = Hh i := fun i i0 i1 => by rw [hG i i0 i1, hH i i0 i1]
  have zG : ∀ j : Nat, j < 24 → z24 (G j) := fun j hj => by rw [hG j (by omega) (by omega)]; exact z24_and (l1 j hj).1
  have hGH : ∀ P : Int → Int, (∀ i : Int, 0 ≤ i → i < 24 → P i = zi_and (J1 i) (J2 i)) → (∀ i : Nat, i < 24 → z24 (P i) ∧ zb (P i) i = false) ∧ ∀ i j : Nat, i < 24 → j < 24 → zb (P i) j = zb (P j) i := fun P hP => by
    refine ⟨fun i hi => ?_, fun i j hi hj => ?_⟩
    · rw [hP i (by omega) (by omega)]
      refine ⟨z24_and (l1 i hi).1, ?_⟩
      rw [zb_and, ((yv_il_H l1).1 i hi).2, Bool.false_and]
    · rw [hP i (by omega) (by omega), hP j (by omega) (by omega), zb_and, zb_and, (yv_il_H l1).2 i j hi hj, (yv_il_H l2).2 i j hi hj]
  obtain ⟨c, b1, b2, -⟩ := yo_lines (G := G) (H := Hh) zG fun j hj => eJ j (by omega) (by omega)
  have hz : z24 (zi_and s1 s2) := z24_and i1.1
  by_cases q4 : w = 0
  · rw [if_pos q4] at eX eM
    by_cases hn : n = 0
    · rw [if_pos hn] at eX eM
      cases eX; cases eM; rfl
    rw [if_neg hn, ze_X_columnOf x1 (by omega), zl_b, ze_X_rowOf x1 (by omega), zl_b, a1, zl_b, ze_X_columnOf y1 (by omega), zl_b, ze_X_rowOf y1 (by omega), zl_b] at eX
    dsimp only at eX
    rw [a2, zl_b] at eX
    dsimp only at eX
    rw [a3, zl_b, if_pos q4] at eX
    rw [if_neg hn, a4, zl_b] at eM
    dsimp only at eX eM
    obtain ⟨H, HN⟩ := yk_tl_H tl (hGH G hG).1 (hGH G hG).2
    obtain ⟨H2, -⟩ := yk_tl_H tl (hGH Hh hH).1 (hGH Hh hH).2
    obtain ⟨r, er, h1, -⟩ := ym_count H HN hz hni (yk_tl_8 tl) (most := 10000) (f2 := f31) (g1 := g16) (g3 := g18) (g4 := g19) (by decide) (by decide)
    obtain ⟨r2, Nn, nm, S2, g3, a5, hnm, -, Ls, eL, er2, -⟩ := yw_ways (most := 10000) (z := zi_and s1 s2) (J := Hh) (f0 := f2) (g0 := e9) (g1 := e10) (g5 := e13) tl hn (by decide) (by decide)
    have hlen : Ls.length = ym_A (zi_and s1 s2) nr Hh ni := by rw [eL]; exact yw_L_A tl hnm H2
    rw [er, zl_b] at eX
    rw [a5, zl_b] at eM
    cases eX; cases eM
    show r.1 = r2
    rw [h1, er2, hlen, ym_A_cg eJ]
  · rw [if_neg q4] at eX eM
    rw [ze_X_columnOf x1 (by omega), zl_b, ze_X_rowOf x1 (by omega), zl_b, a1, zl_b, ze_X_columnOf y1 (by omega), zl_b, ze_X_rowOf y1 (by omega), zl_b] at eX
    dsimp only at eX
    rw [a2, zl_b] at eX
    dsimp only at eX
    rw [a3, zl_b] at eX
    rw [a4, zl_b] at eM
    dsimp only at eX eM
    by_cases q5 : w = 1
    · rw [if_pos q5] at eX eM
      cases eX; cases eM; rfl
    · rw [if_neg q5] at eX eM
      rw [b1, zl_b] at eX
      rw [b2, zl_b] at eM
      cases eX; cases eM; rfl
end YTX
end
section
/-! The next set with as many: there is none between. -/
def yz (x K : Nat) : Int := yn_n (fun j => x.testBit j) K
theorem yn_split {f : Nat → Bool} {s : Nat} : ∀ K : Nat, yn_n f (s + K) = yn_n f s + yn_n (fun j => f (s + j)) K
  | 0 => by show yn_n f s = yn_n f s + 0; omega
  | K + 1 => by
    show yn_n f (s + K) + (if f (s + K) = true then 1 else 0) = yn_n f s + (yn_n (fun j => f (s + j)) K + (if f (s + K) = true then 1 else 0))
    rw [yn_split K]; omega
theorem yz_add {a b s K : Nat} (h : b < 2 ^ s) : yz (2 ^ s * a + b) (s + K) = yz b s + yz a K := by
  unfold yz
  rw [yn_split]
  rw [yn_eq (f := fun j => (2 ^ s * a + b).testBit j) (g := fun j => b.testBit j) s fun j hj => by rw [Nat.testBit_two_pow_mul_add a h j, if_pos hj]]
  rw [yn_eq (f := fun j => (2 ^ s * a + b).testBit (s + j)) (g := fun j => a.testBit j) K fun j hj => by rw [Nat.testBit_two_pow_mul_add a h (s + j), if_neg (by omega), Nat.add_sub_cancel_left]]
theorem yz_in {x K : Nat} : 0 ≤ yz x K ∧ yz x K ≤ K := yn_in K
theorem yz_cut {x s K : Nat} (h : x < 2 ^ s) : yz x (s + K) = yz x s :=
  yn_cut (fun j hj => Nat.testBit_lt_two_pow (Nat.lt_of_lt_of_le h (Nat.pow_le_pow_right (by decide) hj))) K
theorem yn_full {f : Nat → Bool} : ∀ n : Nat, (∀ j, j < n → f j = true) → yn_n f n = n
  | 0, _ => rfl
  | n + 1, h => by
    show yn_n f n + (if f n = true then 1 else 0) = ((n + 1 : Nat) : Int)
    rw [yn_full n fun j hj => h j (by omega), h n (Nat.lt_succ_self n), if_pos rfl]; rfl
theorem yz_ones {m : Nat} : yz (2 ^ m - 1) m = m := yn_full m fun j hj => by
  rw [Nat.testBit_two_pow_sub_one, decide_eq_true hj]
theorem yz_few {v m : Nat} (h : v < 2 ^ m - 1) : yz v m ≤ (m : Int) - 1 := by
  have b := (yz_in (x := v) (K := m)).2
  by_cases e : yz v m = m
  · have all := yn_all m e
    have ev : v = 2 ^ m - 1 := Nat.eq_of_testBit_eq fun j => by
      rw [Nat.testBit_two_pow_sub_one]
      by_cases hj : j < m
      · rw [decide_eq_true hj]; exact all j hj
      · rw [decide_eq_false hj]
        exact Nat.testBit_lt_two_pow (Nat.lt_of_lt_of_le (show v < 2 ^ m by omega) (Nat.pow_le_pow_right (by decide) (by omega)))
    omega
  · omega
theorem yz_pos {w k : Nat} (h : w < 2 ^ k) (h0 : w ≠ 0) : 1 ≤ yz w k := by
  obtain ⟨j, hj⟩ := Nat.exists_testBit_of_ne_zero h0
  have hjk : j < k := by
    by_cases c : j < k
    · exact c
    · rw [Nat.testBit_lt_two_pow (Nat.lt_of_lt_of_le h (Nat.pow_le_pow_right (by decide) (by omega)))] at hj
      cases hj
  have l := yn_lt (f := fun _ => false) (g := fun j => w.testBit j) (k := j) (by decide) hj k hjk fun i _ hi => (by cases hi)
  have l0 := (yn_in (f := fun _ => false) k).1
  have l : yn_n (fun _ => false) k + 1 ≤ yz w k := l
  generalize yn_n (fun _ => false) k = q at l l0
  omega
theorem yz_1 : yz 1 1 = 1 := by decide
theorem yz_0 {k : Nat} : yz 0 k = 0 := by
  have := yn_eq (f := fun j => (0 : Nat).testBit j) (g := fun _ => false) k fun j _ => Nat.zero_testBit j
  unfold yz
  rw [this]
  have c := yn_cut (f := fun _ => false) (n := 0) (fun _ _ => rfl) k
  rw [Nat.zero_add] at c
  exact c
/-- the block of ones, and what comes next -/
theorem yz_block {k m : Nat} : yz (2 ^ k * (2 ^ m - 1)) (k + (m + 1)) = m := by
  have e := yz_add (a := 2 ^ m - 1) (b := 0) (s := k) (K := m + 1) (Nat.two_pow_pos k)
  rw [Nat.add_zero] at e
  have hp := Nat.two_pow_pos m
  rw [e, yz_0, yz_cut (by omega), yz_ones, Int.zero_add]
theorem yz_nblock {k m : Nat} (hm : 1 ≤ m) : yz (2 ^ (k + m) * 1 + (2 ^ (m - 1) - 1)) (k + m + 1) = m := by
  have hp := Nat.two_pow_pos (m - 1)
  have le : 2 ^ (m - 1) ≤ 2 ^ (k + m) := Nat.pow_le_pow_right (by decide) (by omega)
  rw [yz_add (by omega), yz_1, show k + m = (m - 1) + (k + 1) by omega, yz_cut (by omega), yz_ones]
  omega
theorem yz_bet {k m u : Nat} (hm : 1 ≤ m) (h1 : 2 ^ k * (2 ^ m - 1) < u) (h2 : u < 2 ^ (k + m) + (2 ^ (m - 1) - 1)) : yz u (k + m + 1) ≠ m := by
  have hpk := Nat.two_pow_pos k
  have hpm := Nat.two_pow_pos m
  by_cases c : u < 2 ^ (k + m)
  · have hw : u % 2 ^ k < 2 ^ k := Nat.mod_lt _ hpk
    have eu := Nat.div_add_mod u (2 ^ k)
    have hdiv : u / 2 ^ k = 2 ^ m - 1 := by
      apply Nat.le_antisymm
      · have : u / 2 ^ k < 2 ^ m := (Nat.div_lt_iff_lt_mul hpk).mpr (by rw [Nat.mul_comm, ← Nat.pow_add]; exact c)
        omega
      · exact (Nat.le_div_iff_mul_le hpk).mpr (by rw [Nat.mul_comm]; exact Nat.le_of_lt h1)
    rw [hdiv] at eu
    have hne : u % 2 ^ k ≠ 0 := fun e => by rw [e] at eu; omega
    have e := yz_add (a := 2 ^ m - 1) (b := u % 2 ^ k) (s := k) (K := m + 1) hw
    rw [eu, yz_cut (show 2 ^ m - 1 < 2 ^ m by omega), yz_ones] at e
    have l := yz_pos hw hne
    rw [show k + m + 1 = k + (m + 1) by omega, e]
    omega
  · have hp := Nat.two_pow_pos (m - 1)
    have le : 2 ^ (m - 1) ≤ 2 ^ (k + m) := Nat.pow_le_pow_right (by decide) (by omega)
    obtain ⟨v, ev⟩ : ∃ v, u = 2 ^ (k + m) * 1 + v := ⟨u - 2 ^ (k + m), by omega⟩
    have hv : v < 2 ^ (m - 1) - 1 := by omega
    rw [ev, yz_add (by omega), yz_1, show k + m = (m - 1) + (k + 1) by omega, yz_cut (by omega)]
    have := yz_few hv
    omega
/-- a number is an odd one times a power of 2 -/
theorem yz_odd : ∀ n : Nat, 0 < n → ∃ k b : Nat, n = 2 ^ k * (2 * b + 1) := by
  intro n
  induction n using Nat.strongRecOn with
  | ind n ih =>
    intro h
    by_cases e : n % 2 = 0
    · obtain ⟨k, b, hb⟩ := ih (n / 2) (by omega) (by omega)
      refine ⟨k + 1, b, ?_⟩
      rw [Nat.pow_succ, Nat.mul_comm (2 ^ k) 2, Nat.mul_assoc, ← hb]
      omega
    · exact ⟨0, n / 2, by rw [Nat.pow_zero, Nat.one_mul]; omega⟩
theorem yz_form {x : Nat} (h : 0 < x) : ∃ k m a : Nat, 1 ≤ m ∧ x = 2 ^ (k + m + 1) * a + 2 ^ k * (2 ^ m - 1) := by
  obtain ⟨k, b, hb⟩ := yz_odd x h
  obtain ⟨m, a, ha⟩ := yz_odd (2 * b + 2) (by omega)
  refine ⟨k, m, a, ?_, ?_⟩
  · by_cases e : m = 0
    · subst e; rw [Nat.pow_zero] at ha; omega
    · omega
  · have hp := Nat.two_pow_pos m
    have e1 : 2 * b + 1 = 2 ^ (m + 1) * a + (2 ^ m - 1) := by
      rw [Nat.pow_succ, Nat.mul_comm (2 ^ m) 2, Nat.mul_assoc]
      have e2 : 2 ^ m * (2 * a + 1) = 2 * (2 ^ m * a) + 2 ^ m := by
        rw [Nat.mul_add, Nat.mul_one, Nat.mul_left_comm]
      rw [e2] at ha
      omega
    rw [hb, e1, Nat.mul_add, ← Nat.mul_assoc, ← Nat.pow_add, show k + (m + 1) = k + m + 1 by omega]
theorem yz_step {k m a : Nat} (hm : 1 ≤ m) : ((2 ^ (k + m + 1) * a + 2 ^ k * (2 ^ m - 1)) + 2 ^ k) = 2 ^ (k + m + 1) * a + 2 ^ (k + m) ∧
    ((2 ^ (k + m + 1) * a + 2 ^ k * (2 ^ m - 1)) ^^^ (2 ^ (k + m + 1) * a + 2 ^ (k + m))) / 2 ^ k / 4 = 2 ^ (m - 1) - 1 := by
  have hpk := Nat.two_pow_pos k
  have hpm := Nat.two_pow_pos m
  have e1 : 2 ^ k * (2 ^ m - 1) + 2 ^ k = 2 ^ (k + m) := by
    rw [Nat.pow_add, Nat.mul_sub, Nat.mul_one]
    have : 2 ^ k ≤ 2 ^ k * 2 ^ m := Nat.le_mul_of_pos_right _ hpm
    omega
  have hlt : 2 ^ (k + m) < 2 ^ (k + m + 1) := Nat.pow_lt_pow_right (by decide) (by omega)
  refine ⟨by omega, ?_⟩
  have ex : (2 ^ (k + m + 1) * a + 2 ^ k * (2 ^ m - 1)) ^^^ (2 ^ (k + m + 1) * a + 2 ^ (k + m)) = 2 ^ k * (2 ^ (m + 1) - 1) := Nat.eq_of_testBit_eq fun j => by
    rw [Nat.testBit_xor, Nat.testBit_two_pow_mul_add a (by omega) j, Nat.testBit_two_pow_mul_add a hlt j, Nat.testBit_two_pow_mul, Nat.testBit_two_pow_sub_one, Nat.testBit_two_pow_mul, Nat.testBit_two_pow_sub_one, Nat.testBit_two_pow]
    by_cases c : j < k + m + 1
    · rw [if_pos c, if_pos c]
      by_cases c1 : j ≥ k
      · rw [decide_eq_true c1, Bool.true_and, Bool.true_and]
        by_cases c2 : k + m = j
        · rw [decide_eq_true c2, decide_eq_false (by omega), decide_eq_true (by omega)]; rfl
        · rw [decide_eq_false c2, decide_eq_true (show j - k < m by omega), decide_eq_true (by omega)]; rfl
      · rw [decide_eq_false c1, Bool.false_and, Bool.false_and, decide_eq_false (by omega)]; rfl
    · rw [if_neg c, if_neg c, Bool.xor_self, decide_eq_false (show ¬ j - k < m + 1 by omega), Bool.and_false]
  rw [ex, Nat.mul_div_cancel_left _ hpk]
  have e4 : 2 ^ (m + 1) = 4 * 2 ^ (m - 1) := by
    rw [show m + 1 = 2 + (m - 1) by omega, Nat.pow_add]
  have := Nat.two_pow_pos (m - 1)
  rw [e4]
  omega
theorem yn_zb {t : Int} (t0 : 0 ≤ t) (t1 : t < 16777216) : yn_n (zb t) 24 = yz t.toNat 24 := yn_eq 24 fun j _ => zb_tb t0 (by omega)
theorem zw_gosx {α : Type} {x : Int} {k : Int → Option α} {P : α → Prop} (h1 : 0 < x) (h2 : x < 16777216) (h : ∀ v, x < v → v < 67108864 → (∀ t : Int, x < t → t < v → t < 16777216 → yn_n (zb t) 24 ≠ yn_n (zb x) 24) → (v < 16777216 → yn_n (zb v) 24 = yn_n (zb x) 24) → zh_ok (k v) P) :
    zh_ok (cond (zi_ne (zi_and x (zi_w (-x)))) (zi_let (zi_or (zi_w (x + (zi_and x (zi_w (-x))))) (zi_shr (zi_div (zi_xor x (zi_w (x + (zi_and x (zi_w (-x)))))) (zi_and x (zi_w (-x)))) 2)) k) none) P := by
  obtain ⟨r, r24, rb, rl, e, le⟩ := zw_low h1 h2
  obtain ⟨kk, m, a, hm, hx⟩ := yz_form (x := x.toNat) (by omega)
  have tb : ∀ j, zb x j = x.toNat.testBit j := fun j => zb_tb (by omega) (by omega)
  have hpm := Nat.two_pow_pos m
  have hblk : 2 ^ kk * (2 ^ m - 1) < 2 ^ (kk + m + 1) := by
    have : 2 ^ kk * (2 ^ m - 1) ≤ 2 ^ kk * 2 ^ m := Nat.mul_le_mul_left _ (by omega)
    rw [← Nat.pow_add] at this
    have : 2 ^ (kk + m) < 2 ^ (kk + m + 1) := Nat.pow_lt_pow_right (by decide) (by omega)
    omega
  have bits : ∀ j, j < kk + m + 1 → x.toNat.testBit j = (decide (j ≥ kk) && decide (j - kk < m)) := fun j hj => by
    rw [hx, Nat.testBit_two_pow_mul_add a hblk j, if_pos hj, Nat.testBit_two_pow_mul, Nat.testBit_two_pow_sub_one]
  have erk : r = kk := by
    by_cases c : r < kk
    · rw [tb, bits r (by omega), decide_eq_false (by omega), Bool.false_and] at rb
      cases rb
    · by_cases c2 : kk < r
      · have := rl kk c2
        rw [tb, bits kk (by omega), decide_eq_true (Nat.le_refl kk), decide_eq_true (by omega)] at this
        cases this
      · omega
  subst erk
  obtain ⟨s1, s2⟩ := yz_step (k := r) (m := m) (a := a) hm
  rw [← hx] at s1 s2
  have hp : 0 < 2 ^ r := Nat.two_pow_pos r
  rw [e]
  refine zh_cond (zi_ne_of (by omega)) ?_
  have es : x + ((2 ^ r : Nat) : Int) = ((2 ^ (r + m + 1) * a + 2 ^ (r + m) : Nat) : Int) := by rw [← s1]; omega
  rw [zi_w_id (x := x + ((2 ^ r : Nat) : Int)) (by omega) (by omega)]
  show zh_ok (k (zi_or (x + ((2 ^ r : Nat) : Int)) (zi_shr (zi_div (zi_xor x (x + ((2 ^ r : Nat) : Int))) ((2 ^ r : Nat) : Int)) 2))) P
  have e2 : x.toNat ^^^ (x + ((2 ^ r : Nat) : Int)).toNat = x.toNat ^^^ (2 ^ (r + m + 1) * a + 2 ^ (r + m)) := by rw [es, Int.toNat_natCast]
  rw [zi_xor_nat (a := x) (b := x + ((2 ^ r : Nat) : Int)) (by omega) (by omega) (by omega) (by omega), e2]
  have lx : x.toNat ^^^ (2 ^ (r + m + 1) * a + 2 ^ (r + m)) < 2 ^ 25 := Nat.xor_lt_two_pow (by omega) (by omega)
  generalize hy : x.toNat ^^^ (2 ^ (r + m + 1) * a + 2 ^ (r + m)) = y at s2 lx
  rw [zi_div_eq (by omega) (by omega) (by omega) (by omega), ← Int.natCast_ediv]
  have d2 : y / 2 ^ r ≤ y := Nat.div_le_self _ _
  rw [zi_shr_eq (by omega) (by omega) (by decide) (by decide), show (((2 ^ (2 : Int).toNat : Nat)) : Int) = ((4 : Nat) : Int) from rfl, ← Int.natCast_ediv, s2]
  have hp1 := Nat.two_pow_pos (m - 1)
  have le1 : 2 ^ (m - 1) ≤ 2 ^ (r + m) := Nat.pow_le_pow_right (by decide) (by omega)
  have le2 : 2 ^ (r + m) ≤ 2 ^ (r + m + 1) * a + 2 ^ (r + m) := Nat.le_add_left _ _
  rw [zi_or_nat (by omega) (by omega) (by omega) (by omega), es, Int.toNat_natCast, Int.toNat_natCast]
  have eor : (2 ^ (r + m + 1) * a + 2 ^ (r + m)) ||| (2 ^ (m - 1) - 1) = 2 ^ (r + m + 1) * a + (2 ^ (r + m) * 1 + (2 ^ (m - 1) - 1)) := by
    have e3 : 2 ^ (r + m + 1) * a + 2 ^ (r + m) = 2 ^ (r + m) * (2 * a + 1) := by
      rw [Nat.pow_succ, Nat.mul_add, Nat.mul_one, Nat.mul_assoc]
    rw [e3, ← Nat.two_pow_add_eq_or_of_lt (show 2 ^ (m - 1) - 1 < 2 ^ (r + m) by omega), ← e3]
    omega
  rw [eor]
  have hnb : 2 ^ (r + m) * 1 + (2 ^ (m - 1) - 1) < 2 ^ (r + m + 1) := by
    rw [Nat.pow_succ]; omega
  have cx : yz x.toNat ((r + m + 1) + 30) = (m : Int) + yz a 30 := by
    rw [hx, yz_add hblk, show r + m + 1 = r + (m + 1) by omega, yz_block]
  have c24 : ∀ t : Nat, t < 16777216 → yz t ((r + m + 1) + 30) = yz t 24 := fun t ht => by
    rw [show (r + m + 1) + 30 = 24 + (r + m + 7) by omega]
    exact yz_cut ht
  refine h _ ?_ ?_ (fun t t1 t2 t3 => ?_) fun hv => ?_
  · omega
  · have : 2 ^ (r + m + 1) * a + 2 ^ (r + m) < 33554432 := by omega
    omega
  · rw [yn_zb (by omega) t3, yn_zb (by omega) h2, ← c24 t.toNat (by omega), ← c24 x.toNat (by omega), cx]
    obtain ⟨u, hu⟩ : ∃ u, t.toNat = 2 ^ (r + m + 1) * a + u := ⟨t.toNat - 2 ^ (r + m + 1) * a, by omega⟩
    rw [hu, yz_add (by omega)]
    have := yz_bet (k := r) (m := m) (u := u) hm (by omega) (by omega)
    omega
  · rw [yn_zb (by omega) hv, yn_zb (by omega) h2, ← c24 x.toNat (by omega), cx, Int.toNat_natCast, ← c24 _ (by omega), yz_add hnb, yz_nblock hm]
end
section
/-! hidden: the class goes down by the columns of a way, the reference through all sets: the same least set. -/
def ym_ni (z h : Int) (co : Int → Int) (c s : Int) : Prop := z24 s ∧ ∀ j : Nat, zb s j = (decide (j < 24) && (zb z j && !zb c (yv_st h co j).toNat))
theorem ym_ni_u {z h : Int} {co : Int → Int} {c s v : Int} (h1 : ym_ni z h co c s) (h2 : ym_ni z h co c v) : s = v := z24_ext h1.1 h2.1 fun j _ => by rw [h1.2, h2.2]
/-- by these clouds it can't be told -/
def ym_P (z h : Int) (co nr J : Int → Int) (ni c : Int) : Prop := ∀ s, ym_ni z h co c s → ym_A s nr J ni = 0
/-- a set within another is no greater -/
theorem z24_le {a b : Int} (ha : z24 a) (hb : z24 b) (h : ∀ j, zb a j = true → zb b j = true) : a ≤ b := by
  have e : b = zi_or a b := z24_ext hb (z24_or ha hb) fun j _ => by
    rw [zb_or]
    cases e : zb a j
    · rfl
    · rw [h j e]; rfl
  rw [zi_or_nat ha.1 (by have := ha.2; omega) hb.1 (by have := hb.2; omega)] at e
  have l : a.toNat ≤ a.toNat ||| b.toNat := Nat.left_le_or
  have h1 := ha.1
  have h2 := hb.1
  omega
theorem z24_same {a b : Int} (ha : z24 a) (hb : z24 b) (h : ∀ j, zb a j = true → zb b j = true) (hn : yn_n (zb b) 24 ≤ yn_n (zb a) 24) : b = a := by
  refine z24_ext hb ha fun j hj => ?_
  cases eb : zb b j
  · cases ea : zb a j
    · rfl
    · rw [h j ea] at eb; cases eb
  · cases ea : zb a j
    · have := yn_lt (f := zb a) (g := zb b) (k := j) (by rw [ea]; decide) eb 24 hj fun i _ hi => h i hi
      generalize yn_n (zb a) 24 = p at hn this
      generalize yn_n (zb b) 24 = q at hn this
      omega
    · rfl
theorem yn_clr {x : Int} {q : Nat} (hq : q < 24) (hx : zb x q = true) : yn_n (zb x) 24 = yn_n (zb (zi_and x (zi_xor (zi_shl 1 (q : Int)) (-1)))) 24 + 1 := by
  refine yn_add (k := q) ?_ hx 24 hq fun j hj hjq => ?_
  · rw [zb_clr (by omega) (by omega) hq, decide_eq_true (by omega), Bool.not_true, Bool.and_false]
  · rw [zb_clr (by omega) (by omega) hj, decide_eq_false (by omega), Bool.not_false, Bool.and_true]
section YTH
variable {z h : Int} {co nr J : Int → Int} {ni : Int}
theorem ym_notIn {c : Int} (hz : z24 z) (hc : ∀ i : Int, 0 ≤ i → i < 24 → 0 ≤ co i ∧ co i ≤ 23) (h0 : 0 ≤ h) (h1 : h ≤ 23) : zh_ok (zf_Matcher_notIn c z h co) (ym_ni z h co c) := by
  refine zh_bind (Q := ym_ni z h co c) (zh_loop (F := fun n i (a : Int) => zf_Matcher_notIn_l0 c z h co n a i) (N := 24) (I := fun i a => z24 a ∧ ∀ j : Nat, zb a j = (decide (j < i.toNat) && (zb z j && !zb c (yv_st h co j).toNat))) (fun n i a i0 i1 hI k => ?_) 24 0 0 zi_fu (by decide) (by decide) (by decide) (by decide) ⟨z24_0, fun j => by rw [zb_0, decide_eq_false (show ¬ j < Int.toNat 0 from Nat.not_lt_zero j), Bool.false_and]⟩) fun o ho => zh_ret ho
  obtain ⟨a1, a2⟩ := hI
  show zh_ok (zf_Matcher_notIn_l0_b c z h co (zf_Matcher_notIn_l0 c z h co n) a i) _
  unfold zf_Matcher_notIn_l0_b
  obtain ⟨m, rfl⟩ : ∃ m : Nat, i = m := ⟨i.toNat, by omega⟩
  have a2 : ∀ j : Nat, zb a j = (decide (j < m) && (zb z j && !zb c (yv_st h co j).toNat)) := a2
  refine zh_ite (fun hi => ?_) fun hi => zh_ret ⟨a1, fun j => by rw [a2, show m = 24 by omega]⟩
  have hm : m < 24 := by omega
  have grow := zb_grow (s := a) (i := (m : Int)) (n := m) (P := fun j : Nat => (zb z j && !zb c (yv_st h co j).toNat)) rfl hm a2
  have e1 : ((m : Int) + 1).toNat = m + 1 := by omega
  have st : yv_st h co m = (co (m : Int) + h) % 24 := rfl
  have stin := yv_st_in (h := h) (co := co) (i := (m : Int))
  rw [zi_w_id (x := (m : Int) + 1) (by omega) (by omega)]
  have kk : ∀ a', z24 a' → (∀ j : Nat, zb a' j = (decide (j < m + 1) && (zb z j && !zb c (yv_st h co j).toNat))) → zh_ok (zf_Matcher_notIn_l0 c z h co n a' ((m : Int) + 1)) _ := fun a' q1 q2 => k a' hi ⟨q1, by rw [e1]; exact q2⟩
  by_cases hb : zb z m = true
  · rw [zb_bit1 (t := z) (i := (m : Int)) i0 (by omega) hb, if_neg (show ¬ (1 : Int) = 0 by decide), ze_Sky_standing i0 (by omega) (hc m i0 hi).1 (hc m i0 hi).2 h0 h1, zl_b, ← st]
    by_cases hcb : zb c (yv_st h co m).toNat = true
    · rw [zb_bit1 stin.1 (by omega) hcb, if_neg (show ¬ (1 : Int) = 0 by decide)]
      rw [if_neg (by show ¬ (zb z m && !zb c (yv_st h co m).toNat) = true; rw [hcb, Bool.not_true, Bool.and_false]; decide)] at grow
      exact kk _ a1 grow
    · rw [zb_bit0 stin.1 (by omega) hcb, if_pos rfl]
      rw [if_pos (by show (zb z m && !zb c (yv_st h co m).toNat) = true; rw [hb, Bool.eq_false_iff.mpr hcb]; rfl)] at grow
      exact kk _ (z24_or a1 (z24_shl i0 hi)) grow
  · rw [zb_bit0 (t := z) (i := (m : Int)) i0 (by omega) hb, if_pos rfl]
    rw [if_neg (by show ¬ (zb z m && !zb c (yv_st h co m).toNat) = true; rw [Bool.eq_false_iff.mpr hb, Bool.false_and]; decide)] at grow
    exact kk _ a1 grow
theorem ym_colsOf {S : Int → Int} (hc : ∀ i : Int, 0 ≤ i → i < 24 → 0 ≤ co i ∧ co i ≤ 23) (h0 : 0 ≤ h) (h1 : h ≤ 23) (hS : ∀ b : Nat, b < 8 → zb ni b = true → 0 ≤ S b ∧ S b ≤ 23) : zh_ok (zf_Matcher_columnsOfWay ni h S co) fun s => z24 s ∧ ∀ q, zb s q = true ↔ ∃ b : Nat, b < 8 ∧ zb ni b = true ∧ q = (yv_st h co (S b)).toNat := by
  refine zh_bind (Q := fun s => z24 s ∧ ∀ q, zb s q = true ↔ ∃ b : Nat, b < 8 ∧ zb ni b = true ∧ q = (yv_st h co (S b)).toNat) (zh_loop (F := fun n i (a : Int) => zf_Matcher_columnsOfWay_l0 ni h S co n a i) (N := 8) (I := fun i a => z24 a ∧ ∀ q, zb a q = true ↔ ∃ b : Nat, (b : Int) < i ∧ zb ni b = true ∧ q = (yv_st h co (S b)).toNat) (fun n i a i0 i1 hI k => ?_) 8 0 0 zi_fu (by decide) (by decide) (by decide) (by decide) ⟨z24_0, fun q => by rw [zb_0]; exact ⟨fun h => (by cases h), fun ⟨b, b1, _⟩ => by omega⟩⟩) fun o ho => zh_ret ho
  obtain ⟨a1, a2⟩ := hI
  show zh_ok (zf_Matcher_columnsOfWay_l0_b ni h S co (zf_Matcher_columnsOfWay_l0 ni h S co n) a i) _
  unfold zf_Matcher_columnsOfWay_l0_b
  refine zh_ite (fun hi => ?_) fun hi => zh_ret ⟨a1, fun q => ?_⟩
  · obtain ⟨m, rfl⟩ : ∃ m : Nat, i = m := ⟨i.toNat, by omega⟩
    rw [zi_w_id (x := (m : Int) + 1) (by omega) (by omega)]
    by_cases hb : zb ni m = true
    · obtain ⟨s1, s2⟩ := hS m (by omega) hb
      have stin := yv_st_in (h := h) (co := co) (i := S (m : Int))
      rw [zb_bit1 (t := ni) (i := (m : Int)) i0 (by omega) hb, if_neg (show ¬ (1 : Int) = 0 by decide), zl_ci i0 (by omega), ze_Sky_standing s1 (by omega) (hc _ s1 (by omega)).1 (hc _ s1 (by omega)).2 h0 h1, zl_b, ← show yv_st h co (S (m : Int)) = (co (S (m : Int)) + h) % 24 from rfl]
      refine k _ hi ⟨z24_or a1 (z24_shl stin.1 (by omega)), fun q => ?_⟩
      rw [zb_or, Bool.or_eq_true, a2, zb_shl stin.1 (by omega), decide_eq_true_iff]
      constructor
      · rintro (⟨b, b1, b2⟩ | e)
        · exact ⟨b, by omega, b2⟩
        · exact ⟨m, by omega, hb, e⟩
      · rintro ⟨b, b1, b2, b3⟩
        by_cases e : b = m
        · subst e; exact .inr b3
        · exact .inl ⟨b, by omega, b2, b3⟩
    · rw [zb_bit0 (t := ni) (i := (m : Int)) i0 (by omega) hb, if_pos rfl]
      refine k _ hi ⟨a1, fun q => ?_⟩
      rw [a2]
      constructor
      · rintro ⟨b, b1, b2⟩; exact ⟨b, by omega, b2⟩
      · rintro ⟨b, b1, b2, b3⟩
        refine ⟨b, ?_, b2, b3⟩
        by_cases e : b = m
        · subst e; exact absurd b2 hb
        · omega
  · rw [a2]
    constructor
    · rintro ⟨b, b1, b2⟩; exact ⟨b, by omega, b2⟩
    · rintro ⟨b, b1, b2⟩; exact ⟨b, by omega, b2⟩
def ym_TT (z h : Int) (co nr J : Int → Int) (ni C : Int) (l c : Int) : Prop := z24 c ∧ (∀ j, zb C j = true → zb c j = true) ∧ yn_n (zb c) 24 ≤ yn_n (zb C) 24 + l ∧ ym_P z h co nr J ni c
def ym_HR (z h : Int) (co nr J : Int → Int) (ni C l f f' : Int) : Prop := (f' = f ∨ ym_TT z h co nr J ni C l f') ∧ (∀ c, ym_TT z h co nr J ni C l c → f' ≠ -1 ∧ f' ≤ c) ∧ (f ≠ -1 → f' ≠ -1 ∧ f' ≤ f)
/-- a way is left where none of its columns is clouded -/
theorem ym_hits (H : ym_H nr J) {C s c : Int} {W : Nat → Nat} (hs : ym_ni z h co C s) (hW : ym_Y s nr J ni W) (hCc : ∀ j, zb C j = true → zb c j = true) (hP : ym_P z h co nr J ni c) (hex : ∃ v, ym_ni z h co c v) : ∃ b : Nat, b < 8 ∧ zb ni b = true ∧ zb c (yv_st h co (W b)).toNat = true := by
  by_cases q : ∃ b : Nat, b < 8 ∧ zb ni b = true ∧ zb c (yv_st h co (W b)).toNat = true
  · exact q
  · exfalso
    obtain ⟨v, hv⟩ := hex
    have h0 := hP v hv
    have inv : ∀ b, b ∈ yc_ls (zb ni) 8 → zb v (W b) = true := fun b hb => by
      obtain ⟨b1, b2⟩ := yc_ls_mem.mp hb
      obtain ⟨w1, w2⟩ := hW.1 b hb
      have w2 : zb s (W b) = true := w2
      rw [hs.2, Bool.and_eq_true, Bool.and_eq_true] at w2
      rw [hv.2, decide_eq_true w1, w2.2.1, Bool.eq_false_iff.mpr fun w => q ⟨b, b1, b2, w⟩]; rfl
    have hw : ym_Y v nr J ni W := ⟨fun b hb => ⟨(hW.1 b hb).1, inv b hb⟩, fun a ha b hb hab => ⟨(hW.2 a ha b hb hab).1, fun w => by
      obtain ⟨j1, j2, -, -, j5⟩ := yc_J_t.mp ((hW.2 a ha b hb hab).2 w)
      exact yc_J_t.mpr ⟨j1, j2, inv a ha, inv b hb, j5⟩⟩⟩
    have := yc_pos1 (yc_N_s H) (yc_J_s H) yc_ls_nd hw
    unfold ym_A at h0
    rw [h0] at this
    exact absurd this (Nat.lt_irrefl 0)
theorem ym_hide (H : ym_H nr J) (HN : ∀ a : Nat, a < 8 → ∀ b, zb (nr a) b = true → b < 8 ∧ zb ni b = true) (hz : z24 z) (hni : z24 ni) (hn8 : ∀ b, zb ni b = true → b < 8) (hc : ∀ i : Int, 0 ≤ i → i < 24 → 0 ≤ co i ∧ co i ≤ 23) (h0 : 0 ≤ h) (h1 : h ≤ 23) : ∀ (n w : Nat) (x3 x4 f0 f6 : Int) (g2 g4 g5 : Int → Int), z24 x3 → 0 ≤ x4 → x4 ≤ 4 → x4 + 1 < n → -1 ≤ f0 → zh_ok (zg_Matcher_hide n w x3 x4 f0 z h f6 ni co J g2 nr g4 g5) fun o => ym_HR z h co nr J ni x3 x4 f0 o.1 ∧ -1 ≤ o.1 := by
  intro n
  induction n with
  | zero => intro w x3 x4 f0 f6 g2 g4 g5 c0 c1 c2 c3; omega
  | succ n ih =>
    intro w x3 x4 f0 f6 g2 g4 g5 c0 c1 c2 c3 c4
    show zh_ok (zm_Matcher_hide (zg_Matcher_hide n) x3 x4 f0 z h f6 ni co J g2 nr g4 g5) _
    have main : (f0 = -1 ∨ x3 < f0) → zh_ok ((zf_Matcher_notIn x3 z h co).bind fun r2 => ((zf_Matcher_countWays_24 r2 1 f6 ni J g2 nr g4 g5).bind fun r3 => (if r3.1 = 0 then (some (x3, r3.2.1, r3.2.2.1, r3.2.2.2.1, r3.2.2.2.2)) else (if 0 < x4 then ((zf_Matcher_columnsOfWay ni h r3.2.2.2.2 co).bind fun r6 => ((zm_Matcher_hide_l0 (zg_Matcher_hide n) x3 x4 r6 z h ni co J nr zi_fu 0 f0 r3.2.1 r3.2.2.1 r3.2.2.2.1 r3.2.2.2.2).bind fun q10 => (some (q10.1, q10.2.1, q10.2.2.1, q10.2.2.2.1, q10.2.2.2.2)))) else (some (f0, r3.2.1, r3.2.2.1, r3.2.2.2.1, r3.2.2.2.2)))))) fun o => ym_HR z h co nr J ni x3 x4 f0 o.1 ∧ -1 ≤ o.1 := fun hf0 => by
      refine zh_bind (ym_notIn hz hc h0 h1) fun s hs => ?_
      refine zh_bind (ym_count H HN hs.1 hni hn8 (most := 1) (f2 := f6) (g1 := g2) (g3 := g4) (g4 := g5) (by decide) (by decide)) fun r3 hr => ?_
      obtain ⟨q1, q2⟩ := hr
      refine zh_ite (fun e0 => zh_ret ⟨⟨.inr ⟨c0, fun _ w => w, by show yn_n (zb x3) 24 ≤ yn_n (zb x3) 24 + x4; omega, fun v hv => ?_⟩, fun c hcT => ⟨by show x3 ≠ -1; have := c0.1; omega, z24_le c0 hcT.1 hcT.2.1⟩, fun _ => ?_⟩, by show -1 ≤ x3; have := c0.1; omega⟩) fun e0 => ?_
      · rw [ym_ni_u hv hs]
        rw [q1] at e0
        split at e0 <;> omega
      · have := c0.1
        show x3 ≠ -1 ∧ x3 ≤ f0
        rcases hf0 with e | e
        · contradiction
        · omega
      have hr1 : 0 < r3.1 := by
        rw [q1] at e0 ⊢
        split at e0 <;> split <;> omega
      obtain ⟨hW, hpos⟩ := q2 rfl hr1
      have nP : ¬ ym_P z h co nr J ni x3 := fun hP => by
        have := hP s hs
        rw [q1, this] at hr1
        exact absurd hr1 (by decide)
      have hS : ∀ b : Nat, b < 8 → zb ni b = true → 0 ≤ r3.2.2.2.2 b ∧ r3.2.2.2.2 b ≤ 23 := fun b b1 b2 => by
        have p := hpos b b1 b2
        have q : (r3.2.2.2.2 b).toNat < 24 := (hW.1 b (yc_ls_mem.mpr ⟨b1, b2⟩)).1
        omega
      refine zh_ite (fun hx4 => ?_) fun hx4 => zh_ret ⟨⟨.inl rfl, fun c hcT => ?_, fun w => ⟨w, Int.le_refl _⟩⟩, c4⟩
      · refine zh_bind (ym_colsOf hc h0 h1 hS) fun x6 h6 => ?_
        obtain ⟨z6, h6⟩ := h6
        refine zh_bind (Q := fun q => ym_HR z h co nr J ni x3 x4 f0 q.1 ∧ -1 ≤ q.1) (zh_loop (F := fun n2 i (a : Int × Int × (Int → Int) × (Int → Int) × (Int → Int)) => zm_Matcher_hide_l0 (zg_Matcher_hide n) x3 x4 x6 z h ni co J nr n2 i a.1 a.2.1 a.2.2.1 a.2.2.2.1 a.2.2.2.2) (N := 24)
          (I := fun i a => -1 ≤ a.1 ∧ (a.1 = f0 ∨ ym_TT z h co nr J ni x3 x4 a.1) ∧ (∀ c, ym_TT z h co nr J ni x3 x4 c → (∃ q : Nat, (q : Int) < i ∧ zb x6 q = true ∧ zb c q = true) → a.1 ≠ -1 ∧ a.1 ≤ c) ∧ (f0 ≠ -1 → a.1 ≠ -1 ∧ a.1 ≤ f0)) (fun n2 i a i0 i1 hI k => ?_) 24 0 (f0, r3.2.1, r3.2.2.1, r3.2.2.2.1, r3.2.2.2.2) zi_fu (by decide) (by decide) (by decide) (by decide) ⟨c4, .inl rfl, fun c _ ⟨q, hq, _⟩ => by omega, fun w => ⟨w, Int.le_refl _⟩⟩) fun q hq => zh_ret hq
        obtain ⟨a1, a2, a3, a4, a5⟩ := a
        obtain ⟨I0, I1, I2, I3⟩ := hI
        have I0 : -1 ≤ a1 := I0
        show zh_ok (zm_Matcher_hide_l0_b (zg_Matcher_hide n) x3 x4 x6 z h ni co J nr (zm_Matcher_hide_l0 (zg_Matcher_hide n) x3 x4 x6 z h ni co J nr n2) i a1 a2 a3 a4 a5) _
        unfold zm_Matcher_hide_l0_b
        refine zh_ite (fun hi => ?_) fun hi => zh_ret ⟨⟨I1, fun c hcT => I2 c hcT ?_, I3⟩, I0⟩
        · obtain ⟨m, rfl⟩ : ∃ m : Nat, i = m := ⟨i.toNat, by omega⟩
          have hm : m < 24 := by omega
          rw [zi_w_id (x := (m : Int) + 1) (by omega) (by omega), zi_w_id (x := x4 - 1) (by omega) (by omega)]
          by_cases hb : zb x6 m = true
          · rw [zb_bit1 (t := x6) (i := (m : Int)) i0 (by omega) hb, if_neg (show ¬ (1 : Int) = 0 by decide)]
            obtain ⟨b, b1, b2, b3⟩ := (h6 m).mp hb
            have nx : ¬ zb x3 m = true := fun w => by
              have hv := (hW.1 b (yc_ls_mem.mpr ⟨b1, b2⟩)).2
              have hv : zb s (r3.2.2.2.2 b).toNat = true := hv
              rw [hs.2, Bool.and_eq_true, Bool.and_eq_true, Bool.not_eq_true', Int.toNat_of_nonneg (hS b b1 b2).1, ← b3] at hv
              rw [w] at hv
              exact absurd hv.2.2 (by decide)
            have zC : z24 (zi_or x3 (zi_shl 1 (m : Int))) := z24_or c0 (z24_shl i0 hi)
            have bC : ∀ j, zb (zi_or x3 (zi_shl 1 (m : Int))) j = true ↔ zb x3 j = true ∨ j = m := fun j => by
              rw [zb_or, Bool.or_eq_true, zb_shl i0 (by omega), decide_eq_true_iff, Int.toNat_natCast]
            have cnt : yn_n (zb (zi_or x3 (zi_shl 1 (m : Int)))) 24 = yn_n (zb x3) 24 + 1 := yn_add (k := m) (Bool.eq_false_iff.mpr nx) ((bC m).mpr (.inr rfl)) 24 hm fun j _ hj => by
              rw [Bool.eq_iff_iff, bC]
              exact ⟨fun w => .inl w, fun w => w.elim id fun w => absurd w hj⟩
            have down : ∀ c, ym_TT z h co nr J ni (zi_or x3 (zi_shl 1 (m : Int))) (x4 - 1) c → ym_TT z h co nr J ni x3 x4 c := fun c ⟨t1, t2, t3, t4⟩ => by
              refine ⟨t1, fun j hj => t2 j ((bC j).mpr (.inl hj)), ?_, t4⟩
              rw [cnt] at t3
              generalize yn_n (zb c) 24 = p1 at t3 ⊢
              generalize yn_n (zb x3) 24 = p2 at t3 ⊢
              omega
            have up : ∀ c, ym_TT z h co nr J ni x3 x4 c → zb c m = true → ym_TT z h co nr J ni (zi_or x3 (zi_shl 1 (m : Int))) (x4 - 1) c := fun c ⟨t1, t2, t3, t4⟩ hcm => by
              refine ⟨t1, fun j hj => ((bC j).mp hj).elim (t2 j) fun e => by rw [e]; exact hcm, ?_, t4⟩
              rw [cnt]
              generalize yn_n (zb c) 24 = p1 at t3 ⊢
              generalize yn_n (zb x3) 24 = p2 at t3 ⊢
              omega
            refine zh_bind (ih 0 (zi_or x3 (zi_shl 1 (m : Int))) (x4 - 1) a1 a2 a3 a4 a5 zC (by omega) (by omega) (by omega) I0) fun r9 h9 => ?_
            obtain ⟨⟨r1, r2, r3'⟩, r4⟩ := h9
            refine k (r9.1, _, _, _, _) hi ⟨r4, ?_, fun c hcT ⟨q, q1, q2, q3⟩ => ?_, fun w => ?_⟩
            · rcases r1 with e | t
              · show r9.1 = f0 ∨ _
                rw [e]; exact I1
              · exact .inr (down _ t)
            · show r9.1 ≠ -1 ∧ r9.1 ≤ c
              by_cases e : q = m
              · subst e
                exact r2 c (up c hcT q3)
              · obtain ⟨y1, y2⟩ := I2 c hcT ⟨q, by omega, q2, q3⟩
                have y1 : a1 ≠ -1 := y1
                have y2 : a1 ≤ c := y2
                obtain ⟨y3, y4⟩ := r3' y1
                exact ⟨y3, by omega⟩
            · obtain ⟨y1, y2⟩ := I3 w
              have y1 : a1 ≠ -1 := y1
              have y2 : a1 ≤ f0 := y2
              obtain ⟨y3, y4⟩ := r3' y1
              exact ⟨y3, by show r9.1 ≤ f0; omega⟩
          · rw [zb_bit0 (t := x6) (i := (m : Int)) i0 (by omega) hb, if_pos rfl]
            refine k (a1, a2, a3, a4, a5) hi ⟨I0, I1, fun c hcT ⟨q, q1, q2, q3⟩ => I2 c hcT ⟨q, ?_, q2, q3⟩, I3⟩
            by_cases e : q = m
            · subst e; exact absurd q2 hb
            · omega
        · obtain ⟨v, ev, hv⟩ := ym_notIn (c := c) hz hc h0 h1
          obtain ⟨b, b1, b2, b3⟩ := ym_hits H hs hW hcT.2.1 hcT.2.2.2 ⟨v, hv⟩
          have stin := yv_st_in (h := h) (co := co) (i := r3.2.2.2.2 b)
          have b3 : zb c (yv_st h co (((r3.2.2.2.2 b).toNat : Nat) : Int)).toNat = true := b3
          rw [Int.toNat_of_nonneg (hS b b1 b2).1] at b3
          exact ⟨(yv_st h co (r3.2.2.2.2 b)).toNat, by omega, (h6 _).mpr ⟨b, b1, b2, rfl⟩, b3⟩
      · obtain ⟨t1, t2, t3, t4⟩ := hcT
        have : c = x3 := z24_same c0 t1 t2 (by
          generalize yn_n (zb c) 24 = p1 at t3 ⊢
          generalize yn_n (zb x3) 24 = p2 at t3 ⊢
          omega)
        rw [this] at t4
        exact absurd t4 nP
    unfold zm_Matcher_hide
    refine zh_ite (fun e => main (.inl e)) fun e => zh_ite (fun e2 => main (.inr e2)) fun e2 => zh_ret ⟨⟨.inl rfl, fun c hcT => ⟨e, ?_⟩, fun w => ⟨w, Int.le_refl _⟩⟩, c4⟩
    have := z24_le c0 hcT.1 hcT.2.1
    show f0 ≤ c
    omega
/-- the fewest columns, of like ones the least bits -/
def ym_Fin (z h : Int) (co nr J : Int → Int) (ni f : Int) : Prop := z24 f ∧ yn_n (zb f) 24 ≤ 4 ∧ ym_P z h co nr J ni f ∧ ∀ c, z24 c → ym_P z h co nr J ni c → yn_n (zb f) 24 ≤ yn_n (zb c) 24 ∧ (yn_n (zb c) 24 = yn_n (zb f) 24 → f ≤ c)
theorem ym_fewest (H : ym_H nr J) (HN : ∀ a : Nat, a < 8 → ∀ b, zb (nr a) b = true → b < 8 ∧ zb ni b = true) (hz : z24 z) (hni : z24 ni) (hn8 : ∀ b, zb ni b = true → b < 8) (hc : ∀ i : Int, 0 ≤ i → i < 24 → 0 ≤ co i ∧ co i ≤ 23) (h0 : 0 ≤ h) (h1 : h ≤ 23) (hn : ¬ ym_P z h co nr J ni 0) {f0 f6 : Int} {g2 g4 g5 : Int → Int} :
    zh_ok (zf_Matcher_fewestColumns f0 z h f6 ni co J g2 nr g4 g5) fun o => (o.1 = -1 ∧ ∀ c, z24 c → ym_P z h co nr J ni c → 4 < yn_n (zb c) 24) ∨ (o.1 ≠ -1 ∧ ym_Fin z h co nr J ni o.1) := by
  unfold zf_Matcher_fewestColumns
  refine zh_bind (Q := fun q => (q.1 = -1 ∧ ∀ c, z24 c → ym_P z h co nr J ni c → 4 < yn_n (zb c) 24) ∨ (q.1 ≠ -1 ∧ ym_Fin z h co nr J ni q.1)) (zh_loop (F := fun n2 i (a : Int × Int × (Int → Int) × (Int → Int) × (Int → Int)) => zf_Matcher_fewestColumns_l0 z h ni co J nr n2 i a.1 a.2.1 a.2.2.1 a.2.2.2.1 a.2.2.2.2) (N := 5)
    (I := fun i a => (1 ≤ i ∧ a.1 = -1 ∧ ∀ c, z24 c → ym_P z h co nr J ni c → i ≤ yn_n (zb c) 24) ∨ (a.1 ≠ -1 ∧ ym_Fin z h co nr J ni a.1)) (fun n2 i a i0 i1 hI k => ?_) 5 1 (-1, f6, g2, g4, g5) zi_fu (by decide) (by decide) (by decide) (by decide) (.inl ⟨by decide, rfl, fun c z1 hP => ?_⟩)) fun q hq => zh_ret hq
  · obtain ⟨a1, a2, a3, a4, a5⟩ := a
    show zh_ok (zf_Matcher_fewestColumns_l0_b z h ni co J nr (zf_Matcher_fewestColumns_l0 z h ni co J nr n2) i a1 a2 a3 a4 a5) _
    unfold zf_Matcher_fewestColumns_l0_b
    refine zh_ite (fun hi => zh_ret ?_) fun hi => ?_
    · rcases hI with ⟨p0, p1, p2⟩ | p
      · refine .inl ⟨p1, fun c c1 c2 => ?_⟩
        have := p2 c c1 c2
        omega
      · exact .inr p
    · refine zh_ite (fun e => ?_) fun e => zh_ret (.inr (hI.elim (fun p => absurd p.2.1 e) id))
      obtain ⟨p0, p1, p2⟩ := hI.elim id fun p => absurd e p.1
      rw [zi_w_id (x := i + 1) (by omega) (by omega)]
      refine zh_bind (ym_hide H HN hz hni hn8 hc h0 h1 6 0 0 i a1 a2 a3 a4 a5 z24_0 (by omega) (by omega) (by omega) (by rw [e]; decide)) fun r3 h3 => k (_, _, _, _, _) (by omega) ?_
      obtain ⟨⟨r1, r2, -⟩, -⟩ := h3
      have n0 : yn_n (zb 0) 24 = 0 := by decide +kernel
      have tt : ∀ c, z24 c → ym_P z h co nr J ni c → yn_n (zb c) 24 ≤ i → ym_TT z h co nr J ni 0 i c := fun c c1 c2 c3 => ⟨c1, fun j hj => (by rw [zb_0] at hj; cases hj), by rw [n0]; omega, c2⟩
      by_cases e2 : r3.1 = -1
      · refine .inl ⟨by omega, e2, fun c c1 c2 => ?_⟩
        have := p2 c c1 c2
        by_cases lt : i + 1 ≤ yn_n (zb c) 24
        · exact lt
        · exact absurd e2 (r2 c (tt c c1 c2 (by omega))).1
      · refine .inr ⟨e2, ?_⟩
        rcases r1 with r1 | ⟨t1, t2, t3, t4⟩
        · rw [e] at r1; exact absurd r1 e2
        · rw [n0] at t3
          have l := p2 _ t1 t4
          have en : yn_n (zb r3.1) 24 = i := by omega
          show ym_Fin z h co nr J ni r3.1
          refine ⟨t1, by omega, t4, fun c c1 c2 => ⟨by rw [en]; exact p2 c c1 c2, fun c3 => ?_⟩⟩
          rw [en] at c3
          exact (r2 c (tt c c1 c2 (by omega))).2
  · by_cases lt : 1 ≤ yn_n (zb c) 24
    · exact lt
    · have e : c = 0 := (z24_z z1).mpr fun j hj => Bool.eq_false_iff.mpr fun w => by
        have := yn_lt (f := fun _ => false) (g := zb c) (k := j) (by decide) w 24 hj fun i _ hi => (by cases hi)
        have := (yn_in (f := fun _ => false) 24).1
        generalize yn_n (fun _ => false) 24 = q at *
        omega
      rw [e] at hP
      exact absurd hP hn
end YTH
end
section
/-! hidden, on the reference's side; alike. -/
theorem yw_ands {x may : Int} (hx : z24 x) : zi_and x (zi_xor may (-1)) = 0 ↔ ∀ j, zb x j = true → zb may j = true := by
  rw [z24_z (z24_and hx)]
  constructor
  · intro h j hj
    have j24 : j < 24 := by
      by_cases c : j < 24
      · exact c
      · rw [z24_b hx (by omega)] at hj; cases hj
    have := h j j24
    rw [zb_and, zb_not (by omega), hj, Bool.true_and, Bool.not_eq_false'] at this
    exact this
  · intro h j hj
    rw [zb_and, zb_not (by omega)]
    cases e : zb x j
    · rfl
    · rw [h j e]; rfl
theorem ym_A_il {z v : Int} {D : Nat → Nat → Bool} {nr J J2 : Int → Int} {ni : Int} (h1 : yv_il z D J) (h2 : yv_il v D J2) (hv : ∀ j, zb v j = true → zb z j = true) : ym_A v nr J2 ni = ym_A v nr J ni := by
  have e : yc_J v J2 = yc_J v J := by
    funext i j
    rw [Bool.eq_iff_iff, yc_J_t, yc_J_t]
    have key : i < 24 → j < 24 → zb v i = true → zb v j = true → zb (J2 i) j = zb (J i) j := fun hi hj vi vj => by
      rw [(h2 i hi).2, (h1 i hi).2]
      unfold yv_lk
      rw [vi, vj, hv i vi, hv j vj]
    constructor
    · rintro ⟨p, q, r, s, t⟩; exact ⟨p, q, r, s, by rw [← key p q r s]; exact t⟩
    · rintro ⟨p, q, r, s, t⟩; exact ⟨p, q, r, s, by rw [key p q r s]; exact t⟩
  unfold ym_A
  rw [e]
section YTM
variable {L : zLW} {K V kd fr hf to C mk mf mh mt : Int → Int} {nc tS tL sP lP mc : Int} {t h u cl sc sr ch ts n ni p z : Int} {co ro br wc wr m gp gl nr tf tt J : Int → Int}
theorem ym_is_cl {x y c v : Int} (hz : yv_is L tS t h u cl sc sr co ro br x y z) (hv : ym_ni z h co c v) : yv_is L tS t h u (zi_or cl c) sc sr co ro br x y v := by
  refine ⟨hv.1, fun j => ?_⟩
  rw [hv.2, hz.2]
  unfold yv_see
  rw [zb_or]
  generalize decide (yg_cb (yv_st h co (j : Int)) x ≤ sc ∧ yg_ab (ro (j : Int) - y) ≤ sr) = b1
  generalize (decide (tS = 0) || yl_any L 118 (yv_lt h u (j : Int) (br (j : Int)) (ro (j : Int)) (yv_st h co (j : Int)) x y (yg_cb (yv_st h co (j : Int)) x + yg_ab (ro (j : Int) - y)))) = b2
  generalize zb cl (yv_st h co (j : Int)).toNat = b3
  generalize zb c (yv_st h co (j : Int)).toNat = b4
  generalize zb t j = b5
  generalize decide (j < 24) = b6
  cases b1 <;> cases b2 <;> cases b3 <;> cases b4 <;> cases b5 <;> cases b6 <;> rfl
theorem ym_tv_cl (hz : yv_is L tS t h u cl sc sr co ro br (p % 24) (p / 24) z) (hJ : yv_il z (yv_D L h u co ro br (p % 24) (p / 24)) J) (hc : ∀ i : Int, 0 ≤ i → i < 24 → 0 ≤ co i ∧ co i ≤ 23) (h0 : 0 ≤ h) (h1 : h ≤ 23) {c : Int} (hex : ∃ z2 J2, yv_is L tS t h u (zi_or cl c) sc sr co ro br (p % 24) (p / 24) z2 ∧ yv_il z2 (yv_D L h u co ro br (p % 24) (p / 24)) J2) :
    ym_tv L tS t h u (zi_or cl c) sc sr co ro br nr ni p ↔ ¬ ym_P z h co nr J ni c := by
  obtain ⟨v, -, hv⟩ := ym_notIn (c := c) hz.1 hc h0 h1
  obtain ⟨z2, J2, h2, h3⟩ := hex
  have e := yv_is_eq h2 (ym_is_cl hz hv)
  subst e
  have hsub : ∀ j, zb z2 j = true → zb z j = true := fun j hj => by
    rw [hv.2, Bool.and_eq_true, Bool.and_eq_true] at hj
    exact hj.2.1
  rw [ym_tv_i h2 h3, ym_A_il hJ h3 hsub]
  constructor
  · intro hp hP
    have := hP z2 hv
    omega
  · intro hn
    by_cases q : 0 < ym_A z2 nr J ni
    · exact q
    · refine absurd (fun s hs => ?_) hn
      rw [ym_ni_u hs hv]
      omega
theorem ym_P_0 (hz : z24 z) : ym_P z h co nr J ni 0 ↔ ym_A z nr J ni = 0 := by
  have e : ym_ni z h co 0 z := ⟨hz, fun j => by
    rw [zb_0, Bool.not_false, Bool.and_true]
    by_cases hj : j < 24
    · rw [decide_eq_true hj, Bool.true_and]
    · rw [decide_eq_false hj, Bool.false_and, z24_b hz (by omega)]⟩
  exact ⟨fun hP => hP z e, fun hA s hs => by rw [ym_ni_u hs e]; exact hA⟩
theorem yw_leastME (R : yl_R L K V nc tS tL sP lP kd fr hf to mc C mk mf mh mt) (k : yk_sky t h u cl sc sr ch co ro br wc wr m) (tl : yk_tl n ni nr tf tt) (hn : n ≠ 0) (p1 : 0 ≤ p) (p2 : p < 288) (hz : yv_is L tS t h u cl sc sr co ro br (p % 24) (p / 24) z) (hJ : yv_il z (yv_D L h u co ro br (p % 24) (p / 24)) J) {q may : Int} (q1 : 1 ≤ q) (q2 : q ≤ 4) {f1 f2 : Int} {m1 g2 g6 g7 g8 g9 g12 : Int → Int} (hm : ∀ j, m1 j = m j) :
    zh_ok (zf_M_leastClouds p q may mc f1 f2 ni n m1 mk g2 mh mt C g6 g7 g8 g9 tf tt g12) fun o => (o.1 = -1 ∧ ∀ c, z24 c → yn_n (zb c) 24 = q → (∀ j, zb c j = true → zb may j = true) → ¬ ym_P z h co nr J ni c) ∨ (o.1 ≠ -1 ∧ z24 o.1 ∧ yn_n (zb o.1) 24 = q ∧ ym_P z h co nr J ni o.1 ∧ ∀ c, z24 c → yn_n (zb c) 24 = q → (∀ j, zb c j = true → zb may j = true) → ym_P z h co nr J ni c → o.1 ≤ c) := by
  obtain ⟨-, ⟨⟨h0, h1⟩, -⟩, -, ⟨hcl, hwas⟩, -, -, -, ki⟩ := id k
  have hco : ∀ i : Int, 0 ≤ i → i < 24 → 0 ≤ co i ∧ co i ≤ 23 := fun i i0 i1 => (ki i i0 i1).1.1
  unfold zf_M_leastClouds
  obtain ⟨qn, rfl⟩ : ∃ qn : Nat, q = qn := ⟨q.toNat, by omega⟩
  have hst : zi_w (zi_shl 1 (qn : Int) - 1) = ((2 ^ qn - 1 : Nat) : Int) := by
    have : ∀ q : Nat, q < 5 → zi_w (zi_shl 1 (q : Int) - 1) = ((2 ^ q - 1 : Nat) : Int) := by decide +kernel
    exact this qn (by omega)
  have hsb : 1 ≤ 2 ^ qn - 1 ∧ 2 ^ qn - 1 ≤ 15 := by
    have : ∀ q : Nat, q < 5 → 1 ≤ q → 1 ≤ 2 ^ q - 1 ∧ 2 ^ q - 1 ≤ 15 := by decide
    exact this qn (by omega) (by omega)
  have hwas : m1 130 = cl := by rw [hm]; exact hwas
  refine zh_sum (Q := fun o => match o with
    | .inl a => ∀ c, z24 c → yn_n (zb c) 24 = (qn : Int) → (∀ j, zb c j = true → zb may j = true) → ¬ ym_P z h co nr J ni c
    | .inr o => o.1 ≠ -1 ∧ z24 o.1 ∧ yn_n (zb o.1) 24 = (qn : Int) ∧ ym_P z h co nr J ni o.1 ∧ ∀ c, z24 c → yn_n (zb c) 24 = (qn : Int) → (∀ j, zb c j = true → zb may j = true) → ym_P z h co nr J ni c → o.1 ≤ c) (zh_loop2 (F := fun f (a : Int × Int × Int × (Int → Int) × (Int → Int) × (Int → Int) × (Int → Int) × (Int → Int) × (Int → Int) × (Int → Int)) => zf_M_leastClouds_l0 p may (m1 130) mc ni n mk mh mt C tf tt f a.1 a.2.1 a.2.2.1 a.2.2.2.1 a.2.2.2.2.1 a.2.2.2.2.2.1 a.2.2.2.2.2.2.1 a.2.2.2.2.2.2.2.1 a.2.2.2.2.2.2.2.2.1 a.2.2.2.2.2.2.2.2.2) (μ := fun a => (16777216 - a.1).toNat)
      (I := fun a => 0 < a.1 ∧ (∀ j, a.2.2.2.1 j = m j) ∧ (a.1 < 16777216 → yn_n (zb a.1) 24 = (qn : Int)) ∧ ∀ c, z24 c → yn_n (zb c) 24 = (qn : Int) → c < a.1 → (∀ j, zb c j = true → zb may j = true) → ¬ ym_P z h co nr J ni c) (fun f a ha kk => ?_) 16777216 (zi_w (zi_shl 1 (qn : Int) - 1), f1, f2, m1, g2, g6, g7, g8, g9, g12) zi_fu (by show (16777216 - zi_w (zi_shl 1 (qn : Int) - 1)).toNat ≤ 16777216; rw [hst]; omega) (by decide) ⟨by show 0 < zi_w (zi_shl 1 (qn : Int) - 1); rw [hst]; omega, hm, fun _ => ?_, fun c c1 c2 c3 => ?_⟩) (fun a ha => zh_ret (.inl ⟨rfl, ha⟩)) fun b hb => zh_ret (.inr hb)
  · obtain ⟨a1, a2, a3, a4, a5, a6, a7, a8, a9, a10⟩ := a
    obtain ⟨ha0, ha, han, hac⟩ := ha
    show zh_ok (zf_M_leastClouds_l0_b p may (m1 130) mc ni n mk mh mt C tf tt (zf_M_leastClouds_l0 p may (m1 130) mc ni n mk mh mt C tf tt f) a1 a2 a3 a4 a5 a6 a7 a8 a9 a10) _
    unfold zf_M_leastClouds_l0_b
    have ha0 : 0 < a1 := ha0
    have ha : ∀ j, a4 j = m j := ha
    have han : a1 < 16777216 → yn_n (zb a1) 24 = (qn : Int) := han
    have hac : ∀ c, z24 c → yn_n (zb c) 24 = (qn : Int) → c < a1 → (∀ j, zb c j = true → zb may j = true) → ¬ ym_P z h co nr J ni c := hac
    refine zh_ite (fun hi => ?_) fun hi => zh_ret fun c c1 c2 => hac c c1 c2 (by have := c1.2; omega)
    have za : z24 a1 := ⟨by omega, by omega⟩
    -- on to the next set
    have nxt : ((∀ j, zb a1 j = true → zb may j = true) → ¬ ym_P z h co nr J ni a1) → ∀ b2 b3 (b4 b5 b6 b7 b8 b9 b10 : Int → Int), (∀ j, b4 j = m j) → ∀ v, a1 < v → v < 67108864 → (∀ t : Int, a1 < t → t < v → t < 16777216 → yn_n (zb t) 24 ≠ yn_n (zb a1) 24) → (v < 16777216 → yn_n (zb v) 24 = yn_n (zb a1) 24) → zh_ok (zf_M_leastClouds_l0 p may (m1 130) mc ni n mk mh mt C tf tt f v b2 b3 b4 b5 b6 b7 b8 b9 b10) _ := fun hno b2 b3 b4 b5 b6 b7 b8 b9 b10 hb4 v v1 v2 v3 v4 => kk (v, b2, b3, b4, b5, b6, b7, b8, b9, b10) (by show (16777216 - v).toNat < (16777216 - a1).toNat; omega) ⟨by show 0 < v; omega, hb4, fun hv => by rw [show yn_n (zb (v, b2, b3, b4, b5, b6, b7, b8, b9, b10).1) 24 = yn_n (zb v) 24 from rfl, v4 hv]; exact han hi, fun c c1 c2 c3 c4 => ?_⟩
    · refine zh_ite (fun hs => ?_) fun hs => ?_
      · have hsub := (yw_ands za).mp hs
        have k2 := yk_cl2 (k := k) (c2 := zi_or (m1 130) a1) (h2 := ch) (m2 := zv_up a4 130 (zi_or (m1 130) a1)) (by rw [hwas]; exact z24_or hcl za) k.2.2.2.2.2.2.1.1.1 k.2.2.2.2.2.2.1.1.2 zv_up_s (by rw [zv_up_n (by decide), ha]; exact k.2.2.2.2.2.2.1.2) (fun j j1 _ => by rw [zv_up_n j1, ha])
        rw [hwas] at k2
        have hm2 : ∀ j, zv_up (zv_up a4 130 (zi_or (m1 130) a1)) 130 (m1 130) j = m j := fun j => by
          by_cases e : j = 130
          · subst e; rw [zv_up_s]; exact hm 130
          · rw [zv_up_n e, zv_up_n e, ha]
        obtain ⟨z2, y1, y2, J2, -, i2, l2⟩ := ym_looks (f1 := 0) (g := g2) (S := g6) (J := g7) (x := p % 24) (y := p / 24) R k2 (by omega) (by omega) (by omega) (by omega)
        have htv := ym_tv_cl (nr := nr) (ni := ni) (c := a1) hz hJ hco h0 h1 ⟨z2, J2, i2, l2⟩
        rw [← hwas] at k2 htv
        refine zh_bind (yw_cbtME R k2 tl hn p1 p2) fun r5 h5 => ?_
        rcases h5.1 with ⟨c1, c2⟩ | ⟨c1, c2⟩
        · rw [if_neg (by rw [c1]; decide)]
          refine zw_gosx ha0 hi fun v v1 v2 v3 v4 => ?_
          exact nxt (fun _ => htv.mp c2) _ _ _ _ _ _ _ _ _ hm2 v v1 v2 v3 v4
        · rw [if_pos c1]
          refine zh_ret ⟨by show a1 ≠ -1; omega, za, han hi, ?_, fun c c1 c2 c3 c4 => ?_⟩
          · by_cases q : ym_P z h co nr J ni a1
            · exact q
            · exact absurd (htv.mpr q) c2
          · show a1 ≤ c
            by_cases lt : c < a1
            · exact absurd c4 (hac c c1 c2 lt c3)
            · omega
      · refine zw_gosx ha0 hi fun v v1 v2 v3 v4 => ?_
        exact nxt (fun w => absurd ((yw_ands za).mpr w) hs) _ _ _ _ _ _ _ _ _ ha v v1 v2 v3 v4
    · have c3 : c < v := c3
      by_cases lt : c < a1
      · exact hac c c1 c2 lt c4
      · by_cases e : c = a1
        · subst e; exact hno c4
        · refine absurd ?_ (v3 c (by omega) c3 (by have := c1.2; omega))
          rw [c2, han hi]
  · show yn_n (zb (zi_w (zi_shl 1 (qn : Int) - 1))) 24 = (qn : Int)
    rw [hst, yn_zb (by omega) (by omega), Int.toNat_natCast, show 24 = qn + (24 - qn) by omega, yz_cut (by omega), yz_ones]
  · have c3 : c < zi_w (zi_shl 1 (qn : Int) - 1) := c3
    rw [hst] at c3
    have c0 := c1.1
    rw [yn_zb c0 (by omega), show 24 = qn + (24 - qn) by omega, yz_cut (by omega)] at c2
    have := yz_few (v := c.toNat) (m := qn) (by omega)
    omega
theorem yw_may (k : yk_sky t h u cl sc sr ch co ro br wc wr m) {s : Int} (hst : ∀ j, zb s j = true → zb t j = true) : zh_ok (zf_M_hidden_l0 s m zi_fu 0 0) fun v => ∀ q, zb v q = true ↔ ∃ j : Nat, j < 24 ∧ zb s j = true ∧ q = (yv_st h co j).toNat := by
  obtain ⟨-, ⟨⟨h0, h1⟩, h128⟩, -, -, -, -, -, ki⟩ := id k
  refine zh_loop (F := fun f i (a : Int) => zf_M_hidden_l0 s m f a i) (N := 24) (I := fun i a => ∀ q, zb a q = true ↔ ∃ j : Nat, (j : Int) < i ∧ zb s j = true ∧ q = (yv_st h co j).toNat) (fun f i a i0 i1 ha kk => ?_) 24 0 0 zi_fu (by decide) (by decide) (by decide) (by decide) fun q => by rw [zb_0]; exact ⟨fun h => (by cases h), fun ⟨j, j1, _⟩ => by omega⟩
  show zh_ok (zf_M_hidden_l0_b s m (zf_M_hidden_l0 s m f) a i) _
  unfold zf_M_hidden_l0_b
  refine zh_ite (fun hi => ?_) fun _ => zh_ret fun q => ?_
  · obtain ⟨v, rfl⟩ : ∃ v : Nat, i = v := ⟨i.toNat, by omega⟩
    rw [zi_w_id (x := (v : Int) + 1) (by omega) (by omega), ze_has2 i0 (by omega), zl_b, Int.toNat_natCast]
    by_cases hb : zb s v = true
    · have kv := ki v i0 hi
      have mv := (kv.2.2 (hst v hb)).1
      have stin := yv_st_in (h := h) (co := co) (i := (v : Int))
      rw [if_pos hb, if_neg (show ¬ (1 : Int) = 0 by decide), ze_M_standsAt i0 hi kv.2.1.1.1 kv.2.1.1.2 (by rw [h128]; exact h0) (by rw [h128]; exact h1), zl_b, mv, h128, ← show yv_st h co v = (co (v : Int) + h) % 24 from rfl]
      refine kk _ hi fun q => ?_
      rw [zb_or, Bool.or_eq_true, ha, zb_shl stin.1 (by omega), decide_eq_true_iff]
      constructor
      · rintro (⟨j, j1, j2⟩ | e)
        · exact ⟨j, by omega, j2⟩
        · exact ⟨v, by omega, hb, e⟩
      · rintro ⟨j, j1, j2, j3⟩
        by_cases e : j = v
        · subst e; exact .inr j3
        · exact .inl ⟨j, by omega, j2, j3⟩
    · rw [if_neg hb, if_pos rfl]
      refine kk _ hi fun q => ?_
      rw [ha]
      constructor
      · rintro ⟨j, j1, j2⟩; exact ⟨j, by omega, j2⟩
      · rintro ⟨j, j1, j2, j3⟩
        refine ⟨j, ?_, j2, j3⟩
        by_cases e : j = v
        · subst e; exact absurd j2 hb
        · omega
  · rw [ha]
    constructor
    · rintro ⟨j, j1, j2⟩; exact ⟨j, by omega, j2⟩
    · rintro ⟨j, j1, j2⟩; exact ⟨j, by omega, j2⟩
/-- the columns that hide least are columns of what is seen -/
theorem ym_Fin_may {f may : Int} (hF : ym_Fin z h co nr J ni f) (hmay : ∀ j : Nat, j < 24 → zb z j = true → zb may (yv_st h co j).toNat = true) : ∀ q, zb f q = true → zb may q = true := fun q hq => by
  obtain ⟨f1, f2, f3, f4⟩ := hF
  have q24 : q < 24 := by
    by_cases c : q < 24
    · exact c
    · rw [z24_b f1 (by omega)] at hq; cases hq
  by_cases hm : zb may q = true
  · exact hm
  · exfalso
    have zc : z24 (zi_and f (zi_xor (zi_shl 1 (q : Int)) (-1))) := z24_and f1
    have cnt := yn_clr q24 hq
    have hP : ym_P z h co nr J ni (zi_and f (zi_xor (zi_shl 1 (q : Int)) (-1))) := fun s hs => f3 s ⟨hs.1, fun j => by
      rw [hs.2]
      by_cases j24 : j < 24
      · cases ez : zb z j
        · rfl
        · have stin := yv_st_in (h := h) (co := co) (i := (j : Int))
          rw [zb_clr (by omega) (by omega) (by omega), decide_eq_false (show ¬ (yv_st h co (j : Int)).toNat = ((q : Nat) : Int).toNat from fun e => hm (by
            have := hmay j j24 ez
            rw [e, Int.toNat_natCast] at this
            exact this)), Bool.not_false, Bool.and_true]
      · rw [decide_eq_false j24, Bool.false_and, Bool.false_and]⟩
    have := (f4 _ zc hP).1
    rw [cnt] at this
    generalize yn_n (zb (zi_and f (zi_xor (zi_shl 1 (q : Int)) (-1)))) 24 = a at this
    omega
theorem yo_hidden (R : yl_R L K V nc tS tL sP lP kd fr hf to mc C mk mf mh mt) (k : yk_sky t h u cl sc sr ch co ro br wc wr m) (tl : yk_tl n ni nr tf tt) {x y w f5 f6 f7 f10 f16 f18 f24 f26 f2 f3 : Int} {g0 g1 g9 g11 g12 g13 g15 g16 e2 e6 e7 e8 e9 e12 : Int → Int} (hs : yw_so g16) :
    ∃ o1 o2, zf_X_hidden x y w n f5 f6 f7 h u f10 t sc sr cl tS f16 nc f18 sP tL lP f24 ni f26 g0 g1 co ro br kd hf to K g9 V g11 g12 g13 nr g15 g16 = some o1 ∧ zf_M_hidden x y w n mc f2 f3 ni m mk e2 mh mt C e6 e7 e8 e9 tf tt e12 = some o2 ∧ o1.1 = o2.1 ∧ yw_so o1.2.2.2.2.2.2.2.2.2.2.2.2.2.2.2.2 ∧ ∀ j, o2.2.2.2.1 j = m j := by
  obtain ⟨oX, eX, hX⟩ := yw_hiddenX (x := x) (y := y) (w := w) (n := n) (f5 := f5) (f6 := f6) (f7 := f7) (f10 := f10) (f16 := f16) (f18 := f18) (f24 := f24) (f25 := ni) (f26 := f26) (g0 := g0) (g1 := g1) (g9 := g9) (g11 := g11) (g12 := g12) (g13 := g13) (g14 := nr) (g15 := g15) R k hs
  obtain ⟨oM, eM, hM⟩ := yw_hiddenM (x := x) (y := y) (w := w) (f2 := f2) (f3 := f3) (g2 := e2) (g6 := e6) (g7 := e7) (g8 := e8) (g9 := e9) (g12 := e12) R k tl
  refine ⟨oX, oM, eX, eM, ?_, hX, hM⟩
  unfold zf_X_hidden at eX
  unfold zf_M_hidden at eM
  rw [ze_X_isPlace, zl_b] at eX
  rw [ze_M_isPlace, zl_b] at eM
  by_cases q : zs_pl x y = 0
  · rw [if_pos q] at eX eM
    cases eX; cases eM; rfl
  rw [if_neg q, ze_X_isWithin, zl_b] at eX
  rw [if_neg q, ze_M_in, zl_b] at eM
  by_cases q2 : zs_in w 0 1 = 0
  · rw [if_pos q2] at eX eM
    cases eX; cases eM; rfl
  rw [if_neg q2] at eX eM
  by_cases hn : n = 0
  · rw [if_pos hn] at eX eM
    cases eX; cases eM; rfl
  rw [if_neg hn] at eX eM
  obtain ⟨x1, x2, y1, y2⟩ := zs_pl_ne q
  have hni := tl.2.2.2.1
  obtain ⟨⟨ht, -⟩, ⟨⟨h0, h1⟩, -⟩, -, -, -, -, -, ki⟩ := id k
  have hco : ∀ i : Int, 0 ≤ i → i < 24 → 0 ≤ co i ∧ co i ≤ 23 := fun i i0 i1 => (ki i i0 i1).1.1
  obtain ⟨f3', s', f14', f16', g0', g1', g9', J1, g12', e1, i1, l1⟩ := yx_lad (f3 := f5) (f4 := f6) (f5 := f7) (f8 := f10) (f14 := f16) (f16 := f18) (g0 := g0) (g1 := g1) (g9 := g9) (g11 := g11) (g12 := g12) R k x1 (by omega : x ≤ 23) y1 (by omega : y ≤ 11)
  rw [e1, zl_b] at eX
  rw [zi_w_id (x := 24 * y) (by omega) (by omega), zi_w_id (x := 24 * y + x) (by omega) (by omega)] at eM
  dsimp only at eX
  obtain ⟨P, eP⟩ : ∃ P, P = 24 * y + x := ⟨_, rfl⟩
  have pm : P % 24 = x := by omega
  have pd : P / 24 = y := by omega
  have P0 : 0 ≤ P := by omega
  have P1 : P < 288 := by omega
  rw [← eP] at eM
  rw [← pm, ← pd] at i1 l1
  obtain ⟨H, HN⟩ := yk_tl_H tl (yv_il_H l1).1 (yv_il_H l1).2
  obtain ⟨r, er, h7, -⟩ := ym_count H HN i1.1 hni (yk_tl_8 tl) (most := 1) (f2 := f24) (g1 := g13) (g3 := g15) (g4 := g16) (by decide) (by decide)
  obtain ⟨r6, er6, h6, i6⟩ := yw_cbtME (f1 := f2) (f2 := f3) (g := e2) (S := e6) (J := e7) (nA := e8) (sF := e9) (fF := e12) R k tl hn P0 P1
  have es := yv_is_eq i6 i1
  rw [er, zl_b] at eX
  rw [er6, zl_b] at eM
  have htv := ym_tv_i (nr := nr) (ni := ni) i1 l1
  by_cases hA : ym_A s' nr J1 ni = 0
  · have z1 : r.1 = 0 := by rw [h7, hA]; decide
    have z2 : r6.1 = 0 := h6.elim (fun w => absurd (htv.mp w.2) (by omega)) fun w => w.1
    rw [if_pos z1] at eX
    rw [if_pos z2] at eM
    cases eX; cases eM; rfl
  · have z1 : ¬ r.1 = 0 := by rw [h7]; split <;> omega
    have z2 : ¬ r6.1 = 0 := h6.elim (fun w => by rw [w.1]; decide) fun w => absurd (htv.mpr (by omega)) w.2
    rw [if_neg z1] at eX
    rw [if_neg z2] at eM
    have nP0 : ¬ ym_P s' h co nr J1 ni 0 := fun w => hA ((ym_P_0 i1.1).mp w)
    obtain ⟨r9, er9, h9⟩ := ym_fewest H HN i1.1 hni (yk_tl_8 tl) hco h0 h1 nP0 (f0 := f26) (f6 := r.2.1) (g2 := r.2.2.1) (g4 := r.2.2.2.1) (g5 := r.2.2.2.2)
    rw [er9, zl_b] at eX
    rw [es] at eM
    have hst : ∀ j, zb s' j = true → zb t j = true := fun j hj => by
      rw [i1.2, Bool.and_eq_true, Bool.and_eq_true] at hj
      exact hj.2.1
    obtain ⟨may, em, hmay⟩ := yw_may k hst
    rw [em, zl_b] at eM
    have hmay2 : ∀ j : Nat, j < 24 → zb s' j = true → zb may (yv_st h co j).toNat = true := fun j j1 j2 => (hmay _).mpr ⟨j, j1, j2, rfl⟩
    have loop : zh_ok (zf_M_hidden_l1 w P may n mc ni mk mh mt C tf tt zi_fu 1 s' r6.2.2.1 m r6.2.2.2.1 r6.2.2.2.2.1 r6.2.2.2.2.2.1 r6.2.2.2.2.2.2.1 r6.2.2.2.2.2.2.2.1 r6.2.2.2.2.2.2.2.2) fun o => match o with
      | .inl a => ∀ f, ym_Fin s' h co nr J1 ni f → False
      | .inr b => ∃ f, ym_Fin s' h co nr J1 ni f ∧ f ≠ -1 ∧ b.1 = (if w = 0 then yn_n (zb f) 24 else f) := by
      refine zh_loop (F := fun f i (a : Int × Int × (Int → Int) × (Int → Int) × (Int → Int) × (Int → Int) × (Int → Int) × (Int → Int) × (Int → Int)) => zf_M_hidden_l1 w P may n mc ni mk mh mt C tf tt f i a.1 a.2.1 a.2.2.1 a.2.2.2.1 a.2.2.2.2.1 a.2.2.2.2.2.1 a.2.2.2.2.2.2.1 a.2.2.2.2.2.2.2.1 a.2.2.2.2.2.2.2.2) (N := 5)
        (I := fun i a => 1 ≤ i ∧ (∀ j, a.2.2.1 j = m j) ∧ ∀ f, ym_Fin s' h co nr J1 ni f → i ≤ yn_n (zb f) 24) (fun f i a i0 i5 ha kk => ?_) 5 1 (s', r6.2.2.1, m, r6.2.2.2.1, r6.2.2.2.2.1, r6.2.2.2.2.2.1, r6.2.2.2.2.2.2.1, r6.2.2.2.2.2.2.2.1, r6.2.2.2.2.2.2.2.2) zi_fu (by decide) (by decide) (by decide) (by decide) ⟨by decide, fun _ => rfl, fun f hF => ?_⟩
      · obtain ⟨a1, a2, a3, a4, a5, a6, a7, a8, a9⟩ := a
        obtain ⟨ha0, ha, hlo⟩ := ha
        show zh_ok (zf_M_hidden_l1_b w P may n mc ni mk mh mt C tf tt (zf_M_hidden_l1 w P may n mc ni mk mh mt C tf tt f) i a1 a2 a3 a4 a5 a6 a7 a8 a9) _
        unfold zf_M_hidden_l1_b
        refine zh_ite (fun hi => zh_ret fun f hF => ?_) fun hi => ?_
        · have := hlo f hF
          have := hF.2.1
          omega
        rw [zi_w_id (x := i + 1) (by omega) (by omega)]
        refine zh_bind (zh_and (yw_leastM R k tl hn P0 P1 ha0 (by omega) ha) (yw_leastME R k tl hn P0 P1 i1 l1 ha0 (by omega) ha)) fun r14 h14 => ?_
        obtain ⟨hres, h14⟩ := h14
        rcases h14 with ⟨c1, c2⟩ | ⟨c0, c1, c2, c3, c4⟩
        · rw [if_pos c1]
          refine kk (_, _, _, _, _, _, _, _, _) (by omega) ⟨by omega, hres, fun f hF => ?_⟩
          have lo := hlo f hF
          by_cases e : yn_n (zb f) 24 = i
          · exact absurd hF.2.2.1 (c2 f hF.1 e (ym_Fin_may hF hmay2))
          · omega
        · rw [if_neg c0]
          have fin : ym_Fin s' h co nr J1 ni r14.1 := by
            have below : ∀ c, z24 c → ym_P s' h co nr J1 ni c → i ≤ yn_n (zb c) 24 := fun c d1 d2 => by
              rcases h9 with ⟨-, d3⟩ | ⟨-, d3⟩
              · have := d3 c d1 d2; omega
              · have := hlo _ d3
                have := (d3.2.2.2 c d1 d2).1
                omega
            refine ⟨c1, by rw [c2]; omega, c3, fun c d1 d2 => ⟨by rw [c2]; exact below c d1 d2, fun d3 => ?_⟩⟩
            rw [c2] at d3
            have hFc : ym_Fin s' h co nr J1 ni r9.1 := by
              rcases h9 with ⟨-, d4⟩ | ⟨-, d4⟩
              · have := d4 c d1 d2; omega
              · exact d4
            have e1 := hFc.2.2.2 c d1 d2
            have e2 := below _ hFc.1 hFc.2.2.1
            have e3 : yn_n (zb r9.1) 24 = i := by omega
            have e4 := c4 r9.1 hFc.1 e3 (ym_Fin_may hFc hmay2) hFc.2.2.1
            have e5 := e1.2 (by omega)
            omega
          refine zh_ite (fun e => zh_ret ⟨r14.1, fin, c0, ?_⟩) fun e => zh_ret ⟨r14.1, fin, c0, ?_⟩
          · show i = _
            rw [if_pos e, c2]
          · show r14.1 = _
            rw [if_neg e]
      · show 1 ≤ yn_n (zb f) 24
        by_cases lt : 1 ≤ yn_n (zb f) 24
        · exact lt
        · have e : f = 0 := (z24_z hF.1).mpr fun j hj => Bool.eq_false_iff.mpr fun w => by
            have l := yn_lt (f := fun _ => false) (g := zb f) (k := j) (by decide) w 24 hj fun i _ hi => (by cases hi)
            have l0 := (yn_in (f := fun _ => false) 24).1
            generalize yn_n (fun _ => false) 24 = a at l l0
            generalize yn_n (zb f) 24 = b at l lt
            omega
          have := hF.2.2.1
          rw [e] at this
          exact absurd this nP0
    obtain ⟨o, eo, ho⟩ := loop
    rw [eo, zl_b] at eM
    cases o with
    | inl a =>
      have ho : ∀ f, ym_Fin s' h co nr J1 ni f → False := ho
      rcases h9 with ⟨c1, -⟩ | ⟨-, c2⟩
      · rw [if_pos c1] at eX
        dsimp only [Sum.elim] at eM
        cases eX; cases eM; rfl
      · exact absurd c2 (ho _)
    | inr b =>
      obtain ⟨f, hF, hne, hb⟩ : ∃ f, ym_Fin s' h co nr J1 ni f ∧ f ≠ -1 ∧ b.1 = (if w = 0 then yn_n (zb f) 24 else f) := ho
      dsimp only [Sum.elim] at eM
      rcases h9 with ⟨-, c2⟩ | ⟨c1, c2⟩
      · have := c2 f hF.1 hF.2.2.1
        have := hF.2.1
        omega
      · have d1 := c2.2.2.2 f hF.1 hF.2.2.1
        have d2 := hF.2.2.2 r9.1 c2.1 c2.2.2.1
        have e4 : yn_n (zb r9.1) 24 = yn_n (zb f) 24 := by omega
        have e5 : r9.1 = f := by
          have a1 := d1.2 e4.symm
          have a2 := d2.2 e4
          omega
        rw [if_neg c1] at eX
        by_cases hw : w = 0
        · rw [if_pos hw, ze_bc c2.1, zl_b] at eX
          rw [if_pos hw] at hb
          rw [← Option.some.inj eX, ← Option.some.inj eM]
          show zs_sum r9.1 24 = b.1
          rw [yn_sum c2.1.1 (by have := c2.1.2; omega) 24, hb, e5]
        · rw [if_neg hw] at eX
          rw [if_neg hw] at hb
          rw [← Option.some.inj eX, ← Option.some.inj eM]
          show r9.1 = b.1
          rw [hb, e5]
end YTM
end
section
/-! log: alike. -/
noncomputable def yw_ks (B : Int → Prop) (T2 v : Int) : Int := if v = -1 then -1 else @ite Int (B v ↔ T2 = 1) (Classical.propDecidable _) v (-1)
def yw_mv (gl : Int → Int) (how v : Int) : Int := if v = -1 then -1 else if yg_go v how = -1 ∨ yg_ld gl (yg_go v how) = true then -1 else yg_go v how
noncomputable def yw_G (B : Nat → Int → Prop) (T gl : Int → Int) (a : Int) : Nat → Int → Int
  | 0, i => if yg_ld gl i = true then -1 else i
  | k + 1, i => if (k : Int) + 1 < a then yw_mv gl (T (2 * (k : Int) + 1)) (yw_ks (B k) (T (2 * (k : Int))) (yw_G B T gl a k i)) else yw_ks (B k) (T (2 * (k : Int))) (yw_G B T gl a k i)
theorem yw_ks_m {B : Int → Prop} {T2 : Int} : yw_ks B T2 (-1) = -1 := if_pos rfl
theorem yw_ks_y {B : Int → Prop} {T2 v : Int} (hv : v ≠ -1) (h : B v ↔ T2 = 1) : yw_ks B T2 v = v := by
  unfold yw_ks
  rw [if_neg hv, if_pos h]
theorem yw_ks_n {B : Int → Prop} {T2 v : Int} (hv : v ≠ -1) (h : ¬ (B v ↔ T2 = 1)) : yw_ks B T2 v = -1 := by
  unfold yw_ks
  rw [if_neg hv, if_neg h]
def yw_sv (gl : Int → Int) (v : Int) : Prop := v = -1 ∨ ((0 ≤ v ∧ v < 288) ∧ ¬ yg_ld gl v = true)
theorem yw_ks_sv {gl : Int → Int} {B : Int → Prop} {T2 v : Int} (h : yw_sv gl v) : yw_sv gl (yw_ks B T2 v) := by
  unfold yw_ks
  split
  · exact .inl rfl
  · split
    · exact h
    · exact .inl rfl
theorem yw_mv_sv {gl : Int → Int} {how v : Int} (h : yw_sv gl v) : yw_sv gl (yw_mv gl how v) := by
  unfold yw_mv
  split
  · exact .inl rfl
  · rename_i hv
    split
    · exact .inl rfl
    · rename_i hn
      obtain ⟨⟨v0, v1⟩, -⟩ := h.resolve_left hv
      have := yg_go_in (how := how) v0 v1
      refine .inr ⟨?_, fun w => hn (.inr w)⟩
      have h1 : ¬ yg_go v how = -1 := fun w => hn (.inl w)
      omega
theorem yw_G_sv {B : Nat → Int → Prop} {T gl : Int → Int} {a i : Int} (i0 : 0 ≤ i) (i1 : i < 288) : ∀ k, yw_sv gl (yw_G B T gl a k i)
  | 0 => by
    show yw_sv gl (if yg_ld gl i = true then -1 else i)
    split
    · exact .inl rfl
    · rename_i h
      exact .inr ⟨⟨i0, i1⟩, h⟩
  | k + 1 => by
    have ih := yw_G_sv (B := B) (T := T) (gl := gl) (a := a) i0 i1 k
    show yw_sv gl (if (k : Int) + 1 < a then yw_mv gl (T (2 * (k : Int) + 1)) (yw_ks (B k) (T (2 * (k : Int))) (yw_G B T gl a k i)) else yw_ks (B k) (T (2 * (k : Int))) (yw_G B T gl a k i))
    split
    · exact yw_mv_sv (yw_ks_sv ih)
    · exact yw_ks_sv ih
section YWL
variable {L : zLW} {K V kd fr hf to C mk mf mh mt T M tf tt : Int → Int} {nc tS tL sP lP mc : Int} {t h u cl sc sr ch ts p i ln nn : Int} {co ro br wc wr m gp gl nr : Int → Int} {hs us : Nat → Int} {cs rs : Nat → Int → Int}
theorem yw_moveE (z : yk_sea ts gp gl m) {how : Int} {g D : Int → Int} (hg : ∀ i, 0 ≤ i → i < 288 → g i = D i ∧ yw_sv gl (D i)) : zh_ok (zf_X_moveSpots how g gl) fun o => ∀ i, 0 ≤ i → i < 288 → o i = yw_mv gl how (D i) := by
  unfold zf_X_moveSpots
  refine zh_bind (Q := fun o => ∀ i, 0 ≤ i → i < 288 → o i = yw_mv gl how (D i)) (zh_loop (F := fun f j (b : Int → Int) => zf_X_moveSpots_l0 how gl f j b) (N := 288) (I := fun j b => (∀ i, 0 ≤ i → i < j → b i = yw_mv gl how (D i)) ∧ ∀ i, j ≤ i → i < 288 → b i = D i) (fun f j b j0 j1 ha kk => ?_) 288 0 g zi_fu (by decide) (by decide) (by decide) (by decide) ⟨fun i i0 i1 => by omega, fun i i0 i1 => (hg i i0 i1).1⟩) fun q hq => zh_ret hq
  obtain ⟨a1, a2⟩ := ha
  show zh_ok (zf_X_moveSpots_l0_b how gl (zf_X_moveSpots_l0 how gl f) j b) _
  unfold zf_X_moveSpots_l0_b
  refine zh_ite (fun hj => ?_) fun _ => zh_ret fun i i0 i1 => a1 i i0 (by omega)
  rw [zi_w_id (x := j + 1) (by omega) (by omega), zl_ci j0 hj]
  have ej := a2 j (Int.le_refl _) hj
  have next : ∀ b', (b' j = yw_mv gl how (D j)) → (∀ i, i ≠ j → b' i = b i) → zh_ok (zf_X_moveSpots_l0 how gl f (j + 1) b') _ := fun b' h1 h2 => kk b' hj ⟨fun i i0 i1 => by
    by_cases e : i = j
    · subst e; exact h1
    · rw [h2 i e]; exact a1 i i0 (by omega), fun i i0 i1 => by rw [h2 i (by omega)]; exact a2 i (by omega) i1⟩
  refine zh_ite (fun e => next b ?_ fun _ _ => rfl) fun hne => ?_
  · rw [e]
    rw [ej] at e
    unfold yw_mv
    rw [if_pos e]
  · rw [ej] at hne ⊢
    obtain ⟨⟨v0, v1⟩, -⟩ := (hg j j0 hj).2.resolve_left hne
    rw [ze_goFrom z v0 v1, zl_b]
    refine next _ ?_ fun i hi => zv_up_n hi
    rw [zv_up_s]
    unfold yw_mv
    rw [if_neg hne]
theorem yw_lg2XE (R : yl_R L K V nc tS tL sP lP kd fr hf to mc C mk mf mh mt) (k : yk_sky t h u cl sc sr ch co ro br wc wr m) (tl : yk_tl ln nn nr tf tt) {w e1 e2 e3 e4 e5 e6 e7 : Int} {d1 d2 d3 d4 d5 d6 d7 d8 d9 D : Int → Int} (hc : yv_ca L sP h u co ro br e1 e5) (hp : yv_cp L lP h u co ro br d2 d6) (hso : yw_so d9) (hn : ∀ i, 0 ≤ i → i < 288 → d1 i = D i ∧ yw_sv gl (D i)) {B : Int → Prop} (hB : ∀ v, B v ↔ ym_tv L tS t h u cl sc sr co ro br nr nn v) {T2 : Int} (hw : (w = 1 ∧ T2 = 1) ∨ (w = 0 ∧ T2 ≠ 1)) :
    zh_ok (zf_X_log_l2 w t h u cl sc sr tS nc sP nn tL lP co ro br kd hf to K V nr zi_fu 0 e1 e2 e3 e4 e5 e6 e7 d1 d2 d3 d4 d5 d6 d7 d8 d9) fun o => (∀ i, 0 ≤ i → i < 288 → o.2.2.2.2.2.2.2.1 i = yw_ks B T2 (D i)) ∧ yw_so o.2.2.2.2.2.2.2.2.2.2.2.2.2.2.2 := by
  refine zh_loop (F := fun f j (b : Int × Int × Int × Int × Int × Int × Int × (Int → Int) × (Int → Int) × (Int → Int) × (Int → Int) × (Int → Int) × (Int → Int) × (Int → Int) × (Int → Int) × (Int → Int)) => zf_X_log_l2 w t h u cl sc sr tS nc sP nn tL lP co ro br kd hf to K V nr f j b.1 b.2.1 b.2.2.1 b.2.2.2.1 b.2.2.2.2.1 b.2.2.2.2.2.1 b.2.2.2.2.2.2.1 b.2.2.2.2.2.2.2.1 b.2.2.2.2.2.2.2.2.1 b.2.2.2.2.2.2.2.2.2.1 b.2.2.2.2.2.2.2.2.2.2.1 b.2.2.2.2.2.2.2.2.2.2.2.1 b.2.2.2.2.2.2.2.2.2.2.2.2.1 b.2.2.2.2.2.2.2.2.2.2.2.2.2.1 b.2.2.2.2.2.2.2.2.2.2.2.2.2.2.1 b.2.2.2.2.2.2.2.2.2.2.2.2.2.2.2) (N := 288) (I := fun j o => (yv_ca L sP h u co ro br o.1 o.2.2.2.2.1 ∧ yv_cp L lP h u co ro br o.2.2.2.2.2.2.2.2.1 o.2.2.2.2.2.2.2.2.2.2.2.2.1 ∧ yw_so o.2.2.2.2.2.2.2.2.2.2.2.2.2.2.2) ∧ (∀ i, 0 ≤ i → i < j → o.2.2.2.2.2.2.2.1 i = yw_ks B T2 (D i)) ∧ ∀ i, j ≤ i → i < 288 → o.2.2.2.2.2.2.2.1 i = D i) (fun f j b j0 j1 ha kk => ?_) 288 0 (e1, e2, e3, e4, e5, e6, e7, d1, d2, d3, d4, d5, d6, d7, d8, d9) zi_fu (by decide) (by decide) (by decide) (by decide) ⟨⟨hc, hp, hso⟩, fun i i0 i1 => by omega, fun i i0 i1 => (hn i i0 i1).1⟩
  obtain ⟨b1, b2, b3, b4, b5, b6, b7, b8, b9, b10, b11, b12, b13, b14, b15, b16⟩ := b
  obtain ⟨⟨a1, a2, a4⟩, a5, a6⟩ := ha
  dsimp only at a1 a2 a4 a5 a6
  show zh_ok (zf_X_log_l2_b w t h u cl sc sr tS nc sP nn tL lP co ro br kd hf to K V nr (zf_X_log_l2 w t h u cl sc sr tS nc sP nn tL lP co ro br kd hf to K V nr f) j b1 b2 b3 b4 b5 b6 b7 b8 b9 b10 b11 b12 b13 b14 b15 b16) _
  unfold zf_X_log_l2_b
  refine zh_ite (fun hj => ?_) fun _ => zh_ret ⟨fun i i0 i1 => a5 i i0 (by omega), a4⟩
  rw [zi_w_id (x := j + 1) (by omega) (by omega), zl_ci j0 hj]
  have ej := a6 j (Int.le_refl _) hj
  have k2 : ∀ c1 c2 c3 c4 c5 c6 c7 c8 c9 c10 c11 c12 c13 c14 c15 c16, yv_ca L sP h u co ro br c1 c5 → yv_cp L lP h u co ro br c9 c13 → yw_so c16 → c8 j = yw_ks B T2 (D j) → (∀ i, i ≠ j → c8 i = b8 i) → zh_ok (zf_X_log_l2 w t h u cl sc sr tS nc sP nn tL lP co ro br kd hf to K V nr f (j + 1) c1 c2 c3 c4 c5 c6 c7 c8 c9 c10 c11 c12 c13 c14 c15 c16) _ := fun c1 c2 c3 c4 c5 c6 c7 c8 c9 c10 c11 c12 c13 c14 c15 c16 p1 p2 p3 p4 p5 => kk (c1, c2, c3, c4, c5, c6, c7, c8, c9, c10, c11, c12, c13, c14, c15, c16) hj ⟨⟨p1, p2, p3⟩, fun i i0 i1 => by
    by_cases e : i = j
    · subst e; exact p4
    · show c8 i = _
      rw [p5 i e]; exact a5 i i0 (by omega), fun i i0 i1 => by
    show c8 i = _
    rw [p5 i (by omega)]; exact a6 i (by omega) i1⟩
  refine zh_ite (fun e => k2 _ _ _ _ _ _ _ _ _ _ _ _ _ _ _ _ a1 a2 a4 ?_ fun _ _ => rfl) fun hne => ?_
  · rw [e]
    rw [ej] at e
    rw [e, yw_ks_m]
  · rw [ej] at hne ⊢
    obtain ⟨⟨v0, v1⟩, -⟩ := (hn j j0 hj).2.resolve_left hne
    refine zh_bind (yw_cbtXE R k tl v0 v1 a1 a2 a4) fun r h5 => ?_
    obtain ⟨h5, h6⟩ := h5
    have hBj := hB (D j)
    refine zh_ite (fun e => k2 _ _ _ _ _ _ _ _ _ _ _ _ _ _ _ _ h5.1 h5.2.1 h5.2.2 ?_ fun _ _ => rfl) fun e => k2 _ _ _ _ _ _ _ _ _ _ _ _ _ _ _ _ h5.1 h5.2.1 h5.2.2 ?_ fun i hi => zv_up_n hi
    · rw [ej, yw_ks_y hne]
      rcases h6 with ⟨c1, c2⟩ | ⟨c1, c2⟩
      · rcases hw with ⟨w1, w2⟩ | ⟨w1, w2⟩
        · exact ⟨fun _ => w2, fun _ => hBj.mpr c2⟩
        · omega
      · rcases hw with ⟨w1, w2⟩ | ⟨w1, w2⟩
        · omega
        · exact ⟨fun w => absurd (hBj.mp w) c2, fun w => absurd w w2⟩
    · rw [zv_up_s, yw_ks_n hne]
      intro hiff
      rcases h6 with ⟨c1, c2⟩ | ⟨c1, c2⟩
      · rcases hw with ⟨w1, w2⟩ | ⟨w1, w2⟩
        · exact e (by rw [c1, w1])
        · exact w2 (hiff.mp (hBj.mpr c2))
      · rcases hw with ⟨w1, w2⟩ | ⟨w1, w2⟩
        · exact c2 (hBj.mp (hiff.mpr w2))
        · exact e (by rw [c1, w1])
theorem yw_lg1XE (R : yl_R L K V nc tS tL sP lP kd fr hf to mc C mk mf mh mt) (sq : yw_sq t h u cl sc sr ch ts co ro br wc wr gl hs us cs rs) (tl : yk_tl ln nn nr tf tt) {a e1 e2 e3 e4 e5 e6 e7 : Int} {d1 c1 c2 c3 c4 c5 c6 c7 c8 : Int → Int} (n1 : 0 ≤ a) (n2 : a ≤ 12) (hso : yw_so c8) {B : Nat → Int → Prop} (hB : ∀ j v, B j v ↔ ym_tv L tS t (hs j) (us j) cl sc sr (cs j) (rs j) br nr nn v) (hn : ∀ i, 0 ≤ i → i < 288 → d1 i = yw_G B T gl a 0 i) :
    zh_ok (zf_X_log_l1 a t cl sc sr tS nc sP nn tL lP T gl br wc wr kd hf to K V nr zi_fu 0 h u e1 e2 e3 e4 e5 e6 e7 d1 co ro c1 c2 c3 c4 c5 c6 c7 c8) fun o => ∀ i, 0 ≤ i → i < 288 → o.2.2.2.2.2.2.2.2.2.1 i = yw_G B T gl a a.toNat i := by
  obtain ⟨⟨s1, s2, s3, s4⟩, sq2⟩ := sq
  refine zh_loop (F := fun f j (b : Int × Int × Int × Int × Int × Int × Int × Int × Int × (Int → Int) × (Int → Int) × (Int → Int) × (Int → Int) × (Int → Int) × (Int → Int) × (Int → Int) × (Int → Int) × (Int → Int) × (Int → Int) × (Int → Int)) => zf_X_log_l1 a t cl sc sr tS nc sP nn tL lP T gl br wc wr kd hf to K V nr f j b.1 b.2.1 b.2.2.1 b.2.2.2.1 b.2.2.2.2.1 b.2.2.2.2.2.1 b.2.2.2.2.2.2.1 b.2.2.2.2.2.2.2.1 b.2.2.2.2.2.2.2.2.1 b.2.2.2.2.2.2.2.2.2.1 b.2.2.2.2.2.2.2.2.2.2.1 b.2.2.2.2.2.2.2.2.2.2.2.1 b.2.2.2.2.2.2.2.2.2.2.2.2.1 b.2.2.2.2.2.2.2.2.2.2.2.2.2.1 b.2.2.2.2.2.2.2.2.2.2.2.2.2.2.1 b.2.2.2.2.2.2.2.2.2.2.2.2.2.2.2.1 b.2.2.2.2.2.2.2.2.2.2.2.2.2.2.2.2.1 b.2.2.2.2.2.2.2.2.2.2.2.2.2.2.2.2.2.1 b.2.2.2.2.2.2.2.2.2.2.2.2.2.2.2.2.2.2.1 b.2.2.2.2.2.2.2.2.2.2.2.2.2.2.2.2.2.2.2) (N := a) (I := fun j o => (o.1 = hs j.toNat ∧ o.2.1 = us j.toNat ∧ o.2.2.2.2.2.2.2.2.2.2.1 = cs j.toNat ∧ o.2.2.2.2.2.2.2.2.2.2.2.1 = rs j.toNat) ∧ (∀ i, 0 ≤ i → i < 288 → o.2.2.2.2.2.2.2.2.2.1 i = yw_G B T gl a j.toNat i) ∧ yw_so o.2.2.2.2.2.2.2.2.2.2.2.2.2.2.2.2.2.2.2) (fun f j b j0 j1 ha kk => ?_) 12 0 (h, u, e1, e2, e3, e4, e5, e6, e7, d1, co, ro, c1, c2, c3, c4, c5, c6, c7, c8) zi_fu (by omega) (by decide) n1 (by decide) ⟨⟨s1.symm, s2.symm, s3.symm, s4.symm⟩, hn, hso⟩
  obtain ⟨b1, b2, b3, b4, b5, b6, b7, b8, b9, b10, b11, b12, b13, b14, b15, b16, b17, b18, b19, b20⟩ := b
  obtain ⟨v, rfl⟩ : ∃ v : Nat, j = v := ⟨j.toNat, by omega⟩
  obtain ⟨⟨w1, w2, w3, w4⟩, a3, a4⟩ := ha
  have w1 : b1 = hs v := w1
  have w2 : b2 = us v := w2
  have w3 : b11 = cs v := w3
  have w4 : b12 = rs v := w4
  have a3 : ∀ i, 0 ≤ i → i < 288 → b10 i = yw_G B T gl a v i := a3
  have a4 : yw_so b20 := a4
  subst w1; subst w2; subst w3; subst w4
  show zh_ok (zf_X_log_l1_b a t cl sc sr tS nc sP nn tL lP T gl br wc wr kd hf to K V nr (zf_X_log_l1 a t cl sc sr tS nc sP nn tL lP T gl br wc wr kd hf to K V nr f) v (hs v) (us v) b3 b4 b5 b6 b7 b8 b9 b10 (cs v) (rs v) b13 b14 b15 b16 b17 b18 b19 b20) _
  unfold zf_X_log_l1_b
  refine zh_ite (fun hj => ?_) fun hj => zh_ret fun i i0 i1 => by
    rw [show a.toNat = v by omega]
    exact a3 i i0 i1
  rw [zi_w_id (x := (v : Int) + 1) (by omega) (by omega), zi_w_id (x := 2 * (v : Int)) (by omega) (by omega), zi_w_id (x := 2 * (v : Int) + 1) (by omega) (by omega), zi_w_id (x := a - 1) (by omega) (by omega)]
  obtain ⟨gA, e0, h0⟩ := ze_open (f := b3) (g := b13)
  obtain ⟨e7, gp, m, k, z⟩ := sq2 v
  rw [e0, zl_b, ze_byteAt (by omega) (by omega), zl_b, ze_byteAt (by omega) (by omega)]
  have sG : ∀ i, 0 ≤ i → i < 288 → b10 i = yw_G B T gl a v i ∧ yw_sv gl (yw_G B T gl a v i) := fun i i0 i1 => ⟨a3 i i0 i1, yw_G_sv i0 i1 v⟩
  have fin : ∀ q : Int × Int × Int × Int × Int × Int × Int × (Int → Int) × (Int → Int) × (Int → Int) × (Int → Int) × (Int → Int) × (Int → Int) × (Int → Int) × (Int → Int) × (Int → Int), ((∀ i, 0 ≤ i → i < 288 → q.2.2.2.2.2.2.2.1 i = yw_ks (B v) (T (2 * (v : Int))) (yw_G B T gl a v i)) ∧ yw_so q.2.2.2.2.2.2.2.2.2.2.2.2.2.2.2) → zh_ok (if (v : Int) < a - 1 then ((some (T (2 * (v : Int) + 1))).bind fun r39 => ((zf_X_moveSpots r39 q.2.2.2.2.2.2.2.1 gl).bind fun r40 => ((zf_Sky_passHour (hs v) (us v) (cs v) wc (rs v) wr).bind fun r41 => (zf_X_log_l1 a t cl sc sr tS nc sP nn tL lP T gl br wc wr kd hf to K V nr f ((v : Int) + 1) r41.1 r41.2.1 q.1 q.2.1 q.2.2.1 q.2.2.2.1 q.2.2.2.2.1 q.2.2.2.2.2.1 q.2.2.2.2.2.2.1 r40 r41.2.2.1 r41.2.2.2 q.2.2.2.2.2.2.2.2.1 q.2.2.2.2.2.2.2.2.2.1 q.2.2.2.2.2.2.2.2.2.2.1 q.2.2.2.2.2.2.2.2.2.2.2.1 q.2.2.2.2.2.2.2.2.2.2.2.2.1 q.2.2.2.2.2.2.2.2.2.2.2.2.2.1 q.2.2.2.2.2.2.2.2.2.2.2.2.2.2.1 q.2.2.2.2.2.2.2.2.2.2.2.2.2.2.2)))) else ((zf_Sky_passHour (hs v) (us v) (cs v) wc (rs v) wr).bind fun r38 => (zf_X_log_l1 a t cl sc sr tS nc sP nn tL lP T gl br wc wr kd hf to K V nr f ((v : Int) + 1) r38.1 r38.2.1 q.1 q.2.1 q.2.2.1 q.2.2.2.1 q.2.2.2.2.1 q.2.2.2.2.2.1 q.2.2.2.2.2.2.1 q.2.2.2.2.2.2.2.1 r38.2.2.1 r38.2.2.2 q.2.2.2.2.2.2.2.2.1 q.2.2.2.2.2.2.2.2.2.1 q.2.2.2.2.2.2.2.2.2.2.1 q.2.2.2.2.2.2.2.2.2.2.2.1 q.2.2.2.2.2.2.2.2.2.2.2.2.1 q.2.2.2.2.2.2.2.2.2.2.2.2.2.1 q.2.2.2.2.2.2.2.2.2.2.2.2.2.2.1 q.2.2.2.2.2.2.2.2.2.2.2.2.2.2.2))) fun o => ∀ i, 0 ≤ i → i < 288 → o.2.2.2.2.2.2.2.2.2.1 i = yw_G B T gl a a.toNat i := fun q hq => by
    have ev : ((v : Int) + 1).toNat = v + 1 := by omega
    refine zh_ite (fun hlt => ?_) fun hlt => ?_
    · rw [zl_b]
      refine zh_bind (yw_moveE z (D := fun i => yw_ks (B v) (T (2 * (v : Int))) (yw_G B T gl a v i)) fun i i0 i1 => ⟨hq.1 i i0 i1, yw_ks_sv (sG i i0 i1).2⟩) fun r40 h40 => ?_
      rw [e7, zl_b]
      refine kk (hs (v + 1), us (v + 1), q.1, q.2.1, q.2.2.1, q.2.2.2.1, q.2.2.2.2.1, q.2.2.2.2.2.1, q.2.2.2.2.2.2.1, r40, cs (v + 1), rs (v + 1), q.2.2.2.2.2.2.2.2.1, q.2.2.2.2.2.2.2.2.2.1, q.2.2.2.2.2.2.2.2.2.2.1, q.2.2.2.2.2.2.2.2.2.2.2.1, q.2.2.2.2.2.2.2.2.2.2.2.2.1, q.2.2.2.2.2.2.2.2.2.2.2.2.2.1, q.2.2.2.2.2.2.2.2.2.2.2.2.2.2.1, q.2.2.2.2.2.2.2.2.2.2.2.2.2.2.2) hj ⟨by rw [ev]; exact ⟨rfl, rfl, rfl, rfl⟩, fun i i0 i1 => ?_, hq.2⟩
      show r40 i = yw_G B T gl a ((v : Int) + 1).toNat i
      rw [ev, h40 i i0 i1]
      exact (if_pos (show (v : Int) + 1 < a by omega)).symm
    · rw [e7, zl_b]
      refine kk (hs (v + 1), us (v + 1), q.1, q.2.1, q.2.2.1, q.2.2.2.1, q.2.2.2.2.1, q.2.2.2.2.2.1, q.2.2.2.2.2.2.1, q.2.2.2.2.2.2.2.1, cs (v + 1), rs (v + 1), q.2.2.2.2.2.2.2.2.1, q.2.2.2.2.2.2.2.2.2.1, q.2.2.2.2.2.2.2.2.2.2.1, q.2.2.2.2.2.2.2.2.2.2.2.1, q.2.2.2.2.2.2.2.2.2.2.2.2.1, q.2.2.2.2.2.2.2.2.2.2.2.2.2.1, q.2.2.2.2.2.2.2.2.2.2.2.2.2.2.1, q.2.2.2.2.2.2.2.2.2.2.2.2.2.2.2) hj ⟨by rw [ev]; exact ⟨rfl, rfl, rfl, rfl⟩, fun i i0 i1 => ?_, hq.2⟩
      show q.2.2.2.2.2.2.2.1 i = yw_G B T gl a ((v : Int) + 1).toNat i
      rw [ev, hq.1 i i0 i1]
      exact (if_neg (show ¬ (v : Int) + 1 < a by omega)).symm
  exact zh_ite (fun e => zh_bind (yw_lg2XE R k tl (D := yw_G B T gl a v) yv_ca0 (yv_cp0 h0) a4 sG (hB v) (.inl ⟨rfl, e⟩)) fin) fun e => zh_bind (yw_lg2XE R k tl (D := yw_G B T gl a v) yv_ca0 (yv_cp0 h0) a4 sG (hB v) (.inr ⟨rfl, e⟩)) fin
theorem yw_lg2ME (R : yl_R L K V nc tS tL sP lP kd fr hf to mc C mk mf mh mt) (k : yk_sky t h u cl sc sr ch co ro br wc wr m) (z : yk_sea ts gp gl m) (tl : yk_tl ln nn nr tf tt) (hln : ln ≠ 0) {a x3 f3 f4 : Int} {A Bh sp d1 d2 d3 d4 d5 d6 D : Int → Int} (i0 : 0 ≤ x3) (i1 : x3 < 12) (hn : ∀ i, 0 ≤ i → i < 288 → sp i = D i ∧ yw_sv gl (D i)) {B : Int → Prop} (hB : ∀ v, B v ↔ ym_tv L tS t h u cl sc sr co ro br nr nn v) {T2 how : Int} (hA : A x3 = T2) (hH : x3 + 1 < a → Bh x3 = how) :
    zh_ok (zf_M_log_l2 a x3 ln mc nn A Bh m mk mh mt C tf tt zi_fu 0 f3 f4 sp d1 d2 d3 d4 d5 d6) fun o => ∀ i, 0 ≤ i → i < 288 → o.2.2.1 i = if x3 + 1 < a then yw_mv gl how (yw_ks B T2 (D i)) else yw_ks B T2 (D i) := by
  refine zh_loop (F := fun f j (b : Int × Int × (Int → Int) × (Int → Int) × (Int → Int) × (Int → Int) × (Int → Int) × (Int → Int) × (Int → Int)) => zf_M_log_l2 a x3 ln mc nn A Bh m mk mh mt C tf tt f j b.1 b.2.1 b.2.2.1 b.2.2.2.1 b.2.2.2.2.1 b.2.2.2.2.2.1 b.2.2.2.2.2.2.1 b.2.2.2.2.2.2.2.1 b.2.2.2.2.2.2.2.2) (N := 288) (I := fun j o => (∀ i, 0 ≤ i → i < j → o.2.2.1 i = if x3 + 1 < a then yw_mv gl how (yw_ks B T2 (D i)) else yw_ks B T2 (D i)) ∧ ∀ i, j ≤ i → i < 288 → o.2.2.1 i = D i) (fun f j b j0 j1 ha kk => ?_) 288 0 (f3, f4, sp, d1, d2, d3, d4, d5, d6) zi_fu (by decide) (by decide) (by decide) (by decide) ⟨fun i i0 i1 => by omega, fun i i0 i1 => (hn i i0 i1).1⟩
  obtain ⟨b1, b2, b3, b4, b5, b6, b7, b8, b9⟩ := b
  obtain ⟨a5, a6⟩ := ha
  dsimp only at a5 a6
  show zh_ok (zf_M_log_l2_b a x3 ln mc nn A Bh m mk mh mt C tf tt (zf_M_log_l2 a x3 ln mc nn A Bh m mk mh mt C tf tt f) j b1 b2 b3 b4 b5 b6 b7 b8 b9) _
  unfold zf_M_log_l2_b
  refine zh_ite (fun hj => ?_) fun _ => zh_ret fun i i0 i1 => a5 i i0 (by omega)
  rw [zi_w_id (x := j + 1) (by omega) (by omega), zi_w_id (x := x3 + 1) (by omega) (by omega), zl_ci j0 hj]
  have ej := a6 j (Int.le_refl _) hj
  have k2 : ∀ c1 c2 c3 c4 c5 c6 c7 c8 c9, (c3 j = if x3 + 1 < a then yw_mv gl how (yw_ks B T2 (D j)) else yw_ks B T2 (D j)) → (∀ i, i ≠ j → c3 i = b3 i) → zh_ok (zf_M_log_l2 a x3 ln mc nn A Bh m mk mh mt C tf tt f (j + 1) c1 c2 c3 c4 c5 c6 c7 c8 c9) _ := fun c1 c2 c3 c4 c5 c6 c7 c8 c9 p4 p5 => kk (c1, c2, c3, c4, c5, c6, c7, c8, c9) hj ⟨fun i i0 i1 => by
    by_cases e : i = j
    · subst e; exact p4
    · show c3 i = _
      rw [p5 i e]; exact a5 i i0 (by omega), fun i i0 i1 => by
    show c3 i = _
    rw [p5 i (by omega)]; exact a6 i (by omega) i1⟩
  have mvm : yw_mv gl how (-1) = -1 := if_pos rfl
  refine zh_ite (fun e => k2 _ _ _ _ _ _ _ _ _ ?_ fun _ _ => rfl) fun hne => ?_
  · rw [e]
    rw [ej] at e
    rw [e, yw_ks_m, mvm]
    split <;> rfl
  rw [ej] at hne ⊢
  obtain ⟨⟨v0, v1⟩, nl⟩ := (hn j j0 hj).2.resolve_left hne
  refine zh_bind (yw_cbtME R k tl hln v0 v1) fun r hr => ?_
  rw [zl_ci i0 (by omega), hA]
  have hBj := hB (D j)
  -- it stays, and goes on
  have go : yw_ks B T2 (D j) = D j → ∀ c1 c2 c3 c4 c5 c6 c7 c8, zh_ok (if x3 + 1 < a then ((zf_M_goesTo (D j) (Bh x3)).bind fun r40 => (if (zv_up b3 j r40) j = -1 then zf_M_log_l2 a x3 ln mc nn A Bh m mk mh mt C tf tt f (j + 1) c1 c2 (zv_up b3 j r40) c3 c4 c5 c6 c7 c8 else ((zf_M_isLand ((zv_up b3 j r40) j) m).bind fun q => (if q = 0 then zf_M_log_l2 a x3 ln mc nn A Bh m mk mh mt C tf tt f (j + 1) c1 c2 (zv_up b3 j r40) c3 c4 c5 c6 c7 c8 else zf_M_log_l2 a x3 ln mc nn A Bh m mk mh mt C tf tt f (j + 1) c1 c2 (zv_up (zv_up b3 j r40) j (-1)) c3 c4 c5 c6 c7 c8)))) else ((zf_M_isLand (D j) m).bind fun q => (if q = 0 then zf_M_log_l2 a x3 ln mc nn A Bh m mk mh mt C tf tt f (j + 1) c1 c2 b3 c3 c4 c5 c6 c7 c8 else zf_M_log_l2 a x3 ln mc nn A Bh m mk mh mt C tf tt f (j + 1) c1 c2 (zv_up b3 j (-1)) c3 c4 c5 c6 c7 c8))) fun o => ∀ i, 0 ≤ i → i < 288 → o.2.2.1 i = if x3 + 1 < a then yw_mv gl how (yw_ks B T2 (D i)) else yw_ks B T2 (D i) := fun hk c1 c2 c3 c4 c5 c6 c7 c8 => by
    refine zh_ite (fun hlt => ?_) fun hlt => ?_
    · rw [hH hlt, ze_goesTo v0 v1, zl_b, zv_up_s]
      have emv : yw_mv gl how (D j) = if yg_go (D j) how = -1 ∨ yg_ld gl (yg_go (D j) how) = true then -1 else yg_go (D j) how := if_neg hne
      refine zh_ite (fun e => k2 _ _ _ _ _ _ _ _ _ ?_ fun i hi => zv_up_n hi) fun e => ?_
      · rw [zv_up_s, if_pos hlt, hk, emv, if_pos (.inl e), e]
      · have gin := yg_go_in (how := how) v0 v1
        rw [ze_isLandM z (p := yg_go (D j) how) (by omega) (by omega), zl_b]
        by_cases l : yg_ld gl (yg_go (D j) how) = true
        · rw [if_pos l, if_neg (show ¬ (1 : Int) = 0 by decide)]
          refine k2 _ _ _ _ _ _ _ _ _ ?_ fun i hi => by rw [zv_up_n hi, zv_up_n hi]
          rw [zv_up_s, if_pos hlt, hk, emv, if_pos (.inr l)]
        · rw [if_neg l, if_pos rfl]
          refine k2 _ _ _ _ _ _ _ _ _ ?_ fun i hi => zv_up_n hi
          rw [zv_up_s, if_pos hlt, hk, emv, if_neg fun w => w.elim e l]
    · rw [ze_isLandM z v0 v1, zl_b, if_neg nl, if_pos rfl]
      refine k2 _ _ _ _ _ _ _ _ _ ?_ fun _ _ => rfl
      rw [ej, if_neg hlt, hk]
  have no : yw_ks B T2 (D j) = -1 → ∀ c1 c2 c3 c4 c5 c6 c7 c8, zh_ok (if (zv_up b3 j (-1)) j = -1 then zf_M_log_l2 a x3 ln mc nn A Bh m mk mh mt C tf tt f (j + 1) c1 c2 (zv_up b3 j (-1)) c3 c4 c5 c6 c7 c8 else ((zf_M_isLand ((zv_up b3 j (-1)) j) m).bind fun q => (if q = 0 then zf_M_log_l2 a x3 ln mc nn A Bh m mk mh mt C tf tt f (j + 1) c1 c2 (zv_up b3 j (-1)) c3 c4 c5 c6 c7 c8 else zf_M_log_l2 a x3 ln mc nn A Bh m mk mh mt C tf tt f (j + 1) c1 c2 (zv_up (zv_up b3 j (-1)) j (-1)) c3 c4 c5 c6 c7 c8))) fun o => ∀ i, 0 ≤ i → i < 288 → o.2.2.1 i = if x3 + 1 < a then yw_mv gl how (yw_ks B T2 (D i)) else yw_ks B T2 (D i) := fun hk c1 c2 c3 c4 c5 c6 c7 c8 => by
    rw [if_pos zv_up_s]
    refine k2 _ _ _ _ _ _ _ _ _ ?_ fun i hi => zv_up_n hi
    rw [zv_up_s, hk, mvm]
    split <;> rfl
  refine zh_ite (fun eT => ?_) fun eT => ?_
  · rcases hr.1 with ⟨c1, c2⟩ | ⟨c1, c2⟩
    · rw [if_pos c1]
      exact go (yw_ks_y hne ⟨fun _ => eT, fun _ => hBj.mpr c2⟩) _ _ _ _ _ _ _ _
    · rw [if_neg (show ¬ r.1 = 1 by rw [c1]; decide)]
      exact no (yw_ks_n hne fun w => c2 (hBj.mp (w.mpr eT))) _ _ _ _ _ _ _ _
  · rcases hr.1 with ⟨c1, c2⟩ | ⟨c1, c2⟩
    · rw [if_neg (show ¬ r.1 = 0 by rw [c1]; decide)]
      exact no (yw_ks_n hne fun w => eT (w.mp (hBj.mpr c2))) _ _ _ _ _ _ _ _
    · rw [if_pos c1]
      exact go (yw_ks_y hne ⟨fun w => absurd (hBj.mp w) c2, fun w => absurd w eT⟩) _ _ _ _ _ _ _ _
theorem yw_lg1ME (R : yl_R L K V nc tS tL sP lP kd fr hf to mc C mk mf mh mt) (sq : yw_sq t h u cl sc sr ch ts co ro br wc wr gl hs us cs rs) (k : yk_sky t h u cl sc sr ch co ro br wc wr m) (z : yk_sea ts gp gl m) (tl : yk_tl ln nn nr tf tt) (hln : ln ≠ 0) {a f3 f4 : Int} {A Bh sp d1 d2 d3 d4 d5 d6 : Int → Int} (n0 : 0 ≤ a) (n1 : a ≤ 12) {B : Nat → Int → Prop} (hB : ∀ j v, B j v ↔ ym_tv L tS t (hs j) (us j) cl sc sr (cs j) (rs j) br nr nn v) (hn : ∀ i, 0 ≤ i → i < 288 → sp i = yw_G B T gl a 0 i) (hA : ∀ i, 0 ≤ i → i < a → A i = T (2 * i) ∧ Bh i = T (2 * i + 1)) :
    zh_ok (zf_M_log_l1 a ln mc nn A Bh mk mh mt C tf tt zi_fu 0 f3 f4 sp m d1 d2 d3 d4 d5 d6) fun o => ∀ i, 0 ≤ i → i < 288 → o.2.2.1 i = yw_G B T gl a a.toNat i := by
  obtain ⟨⟨s1, s2, s3, s4⟩, sq2⟩ := sq
  refine zh_loop (F := fun f j (b : Int × Int × (Int → Int) × (Int → Int) × (Int → Int) × (Int → Int) × (Int → Int) × (Int → Int) × (Int → Int) × (Int → Int)) => zf_M_log_l1 a ln mc nn A Bh mk mh mt C tf tt f j b.1 b.2.1 b.2.2.1 b.2.2.2.1 b.2.2.2.2.1 b.2.2.2.2.2.1 b.2.2.2.2.2.2.1 b.2.2.2.2.2.2.2.1 b.2.2.2.2.2.2.2.2.1 b.2.2.2.2.2.2.2.2.2) (N := a) (I := fun j o => (∀ i, 0 ≤ i → i < 288 → o.2.2.1 i = yw_G B T gl a j.toNat i) ∧ ∃ gp, yk_sky t (hs j.toNat) (us j.toNat) cl sc sr ch (cs j.toNat) (rs j.toNat) br wc wr o.2.2.2.1 ∧ yk_sea ts gp gl o.2.2.2.1) (fun f j b j0 j1 ha kk => ?_) 12 0 (f3, f4, sp, m, d1, d2, d3, d4, d5, d6) zi_fu (by omega) (by decide) n0 (by decide) ⟨hn, gp, by show yk_sky t (hs 0) (us 0) cl sc sr ch (cs 0) (rs 0) br wc wr m; rw [s1, s2, s3, s4]; exact k, z⟩
  obtain ⟨b1, b2, b3, b4, b5, b6, b7, b8, b9, b10⟩ := b
  obtain ⟨v, rfl⟩ : ∃ v : Nat, j = v := ⟨j.toNat, by omega⟩
  obtain ⟨ha, gp, k2, z2⟩ := ha
  have ha : ∀ i, 0 ≤ i → i < 288 → b3 i = yw_G B T gl a v i := ha
  have k2 : yk_sky t (hs v) (us v) cl sc sr ch (cs v) (rs v) br wc wr b4 := k2
  have z2 : yk_sea ts gp gl b4 := z2
  show zh_ok (zf_M_log_l1_b a ln mc nn A Bh mk mh mt C tf tt (zf_M_log_l1 a ln mc nn A Bh mk mh mt C tf tt f) v b1 b2 b3 b4 b5 b6 b7 b8 b9 b10) _
  unfold zf_M_log_l1_b
  refine zh_ite (fun hj => ?_) fun _ => zh_ret fun i i0 i1 => by
    show b3 i = _
    rw [ha i i0 i1, show a.toNat = v by omega]
  rw [zi_w_id (x := (v : Int) + 1) (by omega) (by omega)]
  obtain ⟨h', u', co', ro', m', e6, e7, k3, e8⟩ := yk_pass k2
  have e9 := (sq2 v).1
  rw [e9] at e6
  cases e6
  obtain ⟨t1, t2⟩ := hA v j0 hj
  refine zh_bind (yw_lg2ME R k2 z2 tl hln (D := yw_G B T gl a v) j0 (by omega) (fun i i0 i1 => ⟨ha i i0 i1, yw_G_sv i0 i1 v⟩) (hB v) t1 fun _ => t2) fun q hq => ?_
  rw [e7, zl_b]
  have ev : ((v : Int) + 1).toNat = v + 1 := by omega
  refine kk (q.1, q.2.1, q.2.2.1, m', q.2.2.2.1, q.2.2.2.2.1, q.2.2.2.2.2.1, q.2.2.2.2.2.2.1, q.2.2.2.2.2.2.2.1, q.2.2.2.2.2.2.2.2) hj ⟨fun i i0 i1 => ?_, gp, ?_, yk_sea_fr z2 fun j hj => e8 j (by omega) (by omega) (by omega)⟩
  · show q.2.2.1 i = yw_G B T gl a ((v : Int) + 1).toNat i
    rw [ev, hq i i0 i1]; rfl
  · rw [ev]; exact k3
theorem yo_log {n n2 : Int} (R : yl_R L K V nc tS tL sP lP kd fr hf to mc C mk mf mh mt) (k : yk_sky t h u cl sc sr ch co ro br wc wr m) (z : yk_sea ts gp gl m) (p : yk_tape n n2 T M) (tl : yk_tl ln nn nr tf tt) {a w : Int} {f4 f6 f8 f10 f12 f14 f16 f20 f21 f22 f23 f25 f27 f34 f3 f5 : Int} {g1 g4 g6 g8 g10 g12 g13 g14 g19 g21 g22 g23 g25 g26 A B sp aA g S d1 d2 d3 d4 : Int → Int} (hso : yw_so g26) :
    ∃ o1 o2, zf_X_log a w ln n t f4 h f6 u f8 cl f10 sc f12 sr f14 ch f16 f20 f21 f22 f23 tS f25 nc f27 sP nn tL lP f34 T g1 gl co g4 ro g6 br g8 wc g10 wr g12 g13 g14 kd hf to K g19 V g21 g22 g23 nr g25 g26 = some o1 ∧ zf_M_log a w ln n2 mc f3 f5 nn A M B sp m aA mk g mh mt C S d1 d2 d3 tf tt d4 = some o2 ∧ o1.1 = o2.1 ∧
      (o1.2.1 = yw_logS a w ln n ∧ yw_so o1.2.2.2.2.2.2.2.2.2.2.2.2.2.2.2.2.2.2.2.2.2.2.2.2.2.2.2.2.2) ∧ (o2.2.1 = yw_logS a w ln n2 ∧ ∀ j, 0 ≤ j → j < 422 → o2.2.2.2.2.2.2.2.1 j = m j) := by
  obtain ⟨hn2, n0, n220, hT⟩ := id p
  have en2 := hn2.symm
  subst en2
  obtain ⟨oX, eX, hX⟩ := yw_logX (a := a) (w := w) (ln := ln) (n := n) (nn := nn) (f4 := f4) (f6 := f6) (f8 := f8) (f10 := f10) (f12 := f12) (f14 := f14) (f16 := f16) (f20 := f20) (f21 := f21) (f22 := f22) (f23 := f23) (f25 := f25) (f27 := f27) (f34 := f34) (nr := nr) (g1 := g1) (g4 := g4) (g6 := g6) (g8 := g8) (g10 := g10) (g12 := g12) (g13 := g13) (g14 := g14) (g19 := g19) (g21 := g21) (g22 := g22) (g23 := g23) (g25 := g25) R k z hT hso
  obtain ⟨oM, eM, hM⟩ := yw_logM (a := a) (w := w) (n := n) (f3 := f3) (f4 := f5) (A := A) (B := B) (sp := sp) (aA := aA) (g := g) (S := S) (d1 := d1) (d2 := d2) (d3 := d3) (d4 := d4) R k z hT tl
  refine ⟨oX, oM, eX, eM, ?_, hX, hM⟩
  clear hX hM
  unfold zf_X_log at eX
  unfold zf_M_log at eM
  rw [ze_X_isWithin, zl_b] at eX
  rw [ze_M_in, zl_b] at eM
  by_cases q1 : zs_in a 1 12 = 0
  · rw [if_pos q1] at eX eM
    cases eX; cases eM; rfl
  rw [if_neg q1, ze_X_isWithin, zl_b] at eX
  rw [if_neg q1, ze_M_in, zl_b] at eM
  by_cases q2 : zs_in w 0 1 = 0
  · rw [if_pos q2] at eX eM
    cases eX; cases eM; rfl
  rw [if_neg q2] at eX eM
  by_cases q3 : ln = 0
  · rw [if_pos q3] at eX eM
    cases eX; cases eM; rfl
  rw [if_neg q3] at eX eM
  obtain ⟨n1, n2⟩ := zs_in_ne q1
  rw [zi_w_id (x := 2 * a) (by omega) (by omega)] at eX eM
  unfold zf_Tape_take at eX
  by_cases q4 : n < 2 * a
  · rw [if_pos q4, zl_b, if_pos rfl] at eX
    rw [if_pos q4] at eM
    cases eX; cases eM; rfl
  rw [if_neg q4, zl_b, if_neg (show ¬ (1 : Int) = 0 by decide)] at eX
  rw [if_neg q4] at eM
  rcases yl_bytes (n := a) hT (by omega) n2 (A := A) (B := B) with ⟨A', B', y1, y2, y3⟩ | ⟨A', B', y1, y2⟩
  · rw [y1, zl_b, if_neg (show ¬ (1 : Int) = 0 by decide)] at eX
    rw [y2, zl_b, if_neg (show ¬ (1 : Int) = 0 by decide)] at eM
    obtain ⟨S1, S2, x1, x2, hS, -⟩ := yp_lay_l z 288 0 g1 sp zi_fu (by decide) (by decide) (by decide)
    rw [x1, zl_b] at eX
    unfold zf_Sky_copyFrom at eX
    rw [zl_b] at eX
    dsimp only at eX
    have k2 : yk_sky t h u cl sc sr ch (zv_cpy co g4 24) (zv_cpy ro g6 24) (zv_cpy br g8 24) (zv_cpy wc g10 24) (zv_cpy wr g12 24) m := yk_sky_cg k (fun j j1 j2 => zv_cpy_in j2) (fun j j1 j2 => zv_cpy_in j2) (fun j j1 j2 => zv_cpy_in j2) (fun j j1 j2 => zv_cpy_in j2) (fun j j1 j2 => zv_cpy_in j2) (fun _ _ _ => rfl)
    generalize zv_cpy co g4 24 = co2 at k2 eX
    generalize zv_cpy ro g6 24 = ro2 at k2 eX
    generalize zv_cpy br g8 24 = br2 at k2 eX
    generalize zv_cpy wc g10 24 = wc2 at k2 eX
    generalize zv_cpy wr g12 24 = wr2 at k2 eX
    obtain ⟨mA, e3, hA⟩ := ze_begins (g0 := m) (g := aA)
    rw [x2, zl_b, e3, zl_b] at eM
    obtain ⟨hs, us, cs, rs, sq⟩ := yw_sq_ex ⟨gp, m, k2, z⟩
    obtain ⟨q42, e42, h42⟩ := yw_lg1XE (a := a) (T := T) (e1 := f20) (e2 := f21) (e3 := f22) (e4 := f23) (e5 := f25) (e6 := f27) (e7 := f34) (d1 := S1) (c1 := g13) (c2 := g14) (c3 := g19) (c4 := g21) (c5 := g22) (c6 := g23) (c7 := g25) (c8 := g26) R sq tl (by omega) n2 hso (B := fun j v => ym_tv L tS t (hs j) (us j) cl sc sr (cs j) (rs j) br2 nr nn v) (fun _ _ => Iff.rfl) fun i i0 i1 => (hS i i0 i1).1
    obtain ⟨q49, e49, h49⟩ := yw_lg1ME (a := a) (T := T) (f3 := f3) (f4 := f5) (A := A') (Bh := B') (sp := S2) (d1 := g) (d2 := S) (d3 := d1) (d4 := d2) (d5 := d3) (d6 := d4) R sq k2 z tl q3 (by omega) n2 (B := fun j v => ym_tv L tS t (hs j) (us j) cl sc sr (cs j) (rs j) br2 nr nn v) (fun _ _ => Iff.rfl) (fun i i0 i1 => (hS i i0 i1).2) y3
    rw [e42, zl_b] at eX
    rw [e49, zl_b] at eM
    obtain ⟨m3, e4, h4⟩ := ze_again (g0 := mA) (g := q49.2.2.2.1)
    rw [e4, zl_b] at eM
    obtain ⟨c, f, r1, r2, r3⟩ := yp_count (A := q42.2.2.2.2.2.2.2.2.2.1) (B := q49.2.2.1) fun i i0 i1 => by rw [h42 i i0 i1, h49 i i0 i1]
    rw [r3, zl_b] at eM
    by_cases q5 : w = 0
    · rw [if_pos q5] at eX eM
      rw [r1, zl_b] at eX
      cases eX; cases eM; rfl
    · rw [if_neg q5] at eX eM
      rw [r2, zl_b] at eX
      cases eX; cases eM; rfl
  · rw [y1, zl_b, if_pos rfl] at eX
    rw [y2, zl_b, if_pos rfl] at eM
    cases eX; cases eM; rfl
end YWL
end
section
/-! Integer.bitCount of 28 bits. -/
theorem zs_pop4 {a b c d : Nat} (ha : a < 256) (hb : b < 256) (hc : c < 256) (hd : d < 256) : zs_s3 252645135 (zs_s2 858993459 (zs_s1 1431655765 (a + 256 * (b + 256 * (c + 256 * d))))) = zs_t a + 256 * (zs_t b + 256 * (zs_t c + 256 * zs_t d)) := by
  obtain ⟨a1, a2, a3, a4, a5⟩ := zs_t_d a ha
  obtain ⟨b1, b2, b3, b4, b5⟩ := zs_t_d b hb
  obtain ⟨c1, c2, c3, c4, c5⟩ := zs_t_d c hc
  obtain ⟨d1, d2, d3, d4, d5⟩ := zs_t_d d hd
  have e1 : zs_s1 1431655765 (a + 256 * (b + 256 * (c + 256 * d))) = zs_s1 85 a + 256 * (zs_s1 85 b + 256 * (zs_s1 85 c + 256 * zs_s1 85 d)) := by
    rw [show 1431655765 = 85 + 256 * (85 + 256 * (85 + 256 * 85)) from rfl, zs_s1_split ha, zs_s1_split hb, zs_s1_split hc]
  have e2 : zs_s2 858993459 (zs_s1 85 a + 256 * (zs_s1 85 b + 256 * (zs_s1 85 c + 256 * zs_s1 85 d))) = zs_s2 51 (zs_s1 85 a) + 256 * (zs_s2 51 (zs_s1 85 b) + 256 * (zs_s2 51 (zs_s1 85 c) + 256 * zs_s2 51 (zs_s1 85 d))) := by
    rw [show 858993459 = 51 + 256 * (51 + 256 * (51 + 256 * 51)) from rfl, zs_s2_split a3, zs_s2_split b3, zs_s2_split c3]
  rw [e1, e2, show 252645135 = 15 + 256 * (15 + 256 * (15 + 256 * 15)) from rfl, zs_s3_split a4 (by omega), zs_s3_split b4 (by omega), zs_s3_split c4 (by omega)]
  rfl
theorem zs_p_byte {a r : Nat} (ha : a < 256) : ∀ k : Nat, zs_p (a + 256 * r) (8 + k) = zs_p a 8 + zs_p r k
  | 0 => by
    have h : ∀ n : Nat, n < 8 → (a + 256 * r) / 2 ^ n % 2 = a / 2 ^ n % 2 := by
      intro n hn
      have : n = 0 ∨ n = 1 ∨ n = 2 ∨ n = 3 ∨ n = 4 ∨ n = 5 ∨ n = 6 ∨ n = 7 := by omega
      rcases this with rfl | rfl | rfl | rfl | rfl | rfl | rfl | rfl <;> simp only [Nat.reducePow] <;> omega
    simp only [zs_p, Nat.add_zero]
    rw [h 0 (by decide), h 1 (by decide), h 2 (by decide), h 3 (by decide), h 4 (by decide), h 5 (by decide), h 6 (by decide), h 7 (by decide)]
  | k + 1 => by
    have e : (a + 256 * r) / 2 ^ (8 + k) = r / 2 ^ k := by
      rw [Nat.pow_add, ← Nat.div_div_eq_div_mul, show (2 : Nat) ^ 8 = 256 from rfl, show (a + 256 * r) / 256 = r by omega]
    show zs_p (a + 256 * r) (8 + k) + (a + 256 * r) / 2 ^ (8 + k) % 2 = zs_p a 8 + (zs_p r k + r / 2 ^ k % 2)
    rw [zs_p_byte ha k, e, Nat.add_assoc]
theorem zs_last4 {p q r w u v : Nat} (hp : p ≤ 8) (hq : q ≤ 8) (hr : r ≤ 8) (hw : w ≤ 8) (hu : p + 256 * (q + 256 * (r + 256 * w)) = u) (hv : u + u / 256 = v) : (v + v / 65536) % 64 = p + q + r + w := by
  have v1 : u / 256 = q + 256 * (r + 256 * w) := by omega
  have v2 : v = (p + q + 256 * (q + r)) + 65536 * (r + w + 256 * w) := by omega
  have v3 : v / 65536 = r + w + 256 * w := by omega
  rw [v3, v2]
  have v4 : (p + q + 256 * (q + r)) + 65536 * (r + w + 256 * w) + (r + w + 256 * w) = (p + q + r + w) + 64 * (4 * (q + r) + 1024 * (r + w + 256 * w) + 4 * w) := by omega
  rw [v4, Nat.add_mul_mod_self_left]
  exact Nat.mod_eq_of_lt (by omega)
theorem ze_bitCount28 {x : Int} (h1 : 0 ≤ x) (h2 : x < 268435456) : zf_Integer_bitCount x = some (zs_sum x 32) := by
  obtain ⟨n, rfl⟩ : ∃ n : Nat, x = n := ⟨x.toNat, by omega⟩
  rw [zs_sum_p, Int.toNat_natCast]
  obtain ⟨a, b, c, d, ha, hb, hc, hd, e⟩ : ∃ a b c d : Nat, a < 256 ∧ b < 256 ∧ c < 256 ∧ d < 256 ∧ n = a + 256 * (b + 256 * (c + 256 * d)) := ⟨n % 256, n / 256 % 256, n / 65536 % 256, n / 16777216, by omega, by omega, by omega, by omega, by omega⟩
  obtain ⟨a1, a2, -⟩ := zs_t_d a ha
  obtain ⟨b1, b2, -⟩ := zs_t_d b hb
  obtain ⟨c1, c2, -⟩ := zs_t_d c hc
  obtain ⟨d1, d2, -⟩ := zs_t_d d hd
  have hp := zs_pop4 ha hb hc hd
  have hn : zs_p n 32 = zs_p a 8 + (zs_p b 8 + (zs_p c 8 + zs_p d 8)) := by
    rw [e, show 32 = 8 + (8 + (8 + 8)) from rfl, zs_p_byte ha, zs_p_byte hb, zs_p_byte hc]
  rw [← e] at hp
  unfold zf_Integer_bitCount zi_let
  have l1 : (n / 2) &&& 1431655765 ≤ n / 2 := Nat.and_le_left
  have s1 : zi_w ((n : Int) - zi_and (zi_ush (n : Int) 1) 1431655765) = ((zs_s1 1431655765 n : Nat) : Int) := by
    rw [show (1 : Int) = ((1 : Nat) : Int) from rfl, zi_shr_nat (by omega) (by decide), show (2 : Nat) ^ 1 = 2 from rfl, show (1431655765 : Int) = ((1431655765 : Nat) : Int) from rfl, zi_and_n (by omega) (by decide)]
    unfold zs_s1
    rw [zi_w_id (by omega) (by omega)]
    omega
  have q1 : zs_s1 1431655765 n ≤ n := by unfold zs_s1; omega
  generalize hy : zs_s1 1431655765 n = y at *
  have l2 : y &&& 858993459 ≤ y := Nat.and_le_left
  have l3 : (y / 4) &&& 858993459 ≤ y / 4 := Nat.and_le_left
  have s2 : zi_w (zi_and (y : Int) 858993459 + zi_and (zi_ush (y : Int) 2) 858993459) = ((zs_s2 858993459 y : Nat) : Int) := by
    rw [show (2 : Int) = ((2 : Nat) : Int) from rfl, zi_shr_nat (by omega) (by decide), show (2 : Nat) ^ 2 = 4 from rfl, show (858993459 : Int) = ((858993459 : Nat) : Int) from rfl, zi_and_n (by omega) (by decide), zi_and_n (by omega) (by decide)]
    unfold zs_s2
    rw [zi_w_id (by omega) (by omega)]
    omega
  have q2 : zs_s2 858993459 y ≤ 536870912 := by unfold zs_s2; omega
  rw [s1, s2]
  dsimp only
  generalize hz : zs_s2 858993459 y = z at *
  have s3 : zi_and (zi_w ((z : Int) + zi_ush (z : Int) 4)) 252645135 = ((zs_s3 252645135 z : Nat) : Int) := by
    rw [show (4 : Int) = ((4 : Nat) : Int) from rfl, zi_shr_nat (by omega) (by decide), show ((z : Int) + ((z / 2 ^ 4 : Nat) : Int)) = ((z + z / 16 : Nat) : Int) by omega, zi_w_n (by omega), show (252645135 : Int) = ((252645135 : Nat) : Int) from rfl, zi_and_n (by omega) (by decide)]
    rfl
  rw [s3, hp]
  generalize hu : zs_t a + 256 * (zs_t b + 256 * (zs_t c + 256 * zs_t d)) = u at *
  have s4 : zi_w ((u : Int) + zi_ush (u : Int) 8) = ((u + u / 256 : Nat) : Int) := by
    rw [show (8 : Int) = ((8 : Nat) : Int) from rfl, zi_shr_nat (by omega) (by decide), show ((u : Int) + ((u / 2 ^ 8 : Nat) : Int)) = ((u + u / 256 : Nat) : Int) by omega, zi_w_n (by omega)]
  rw [s4]
  generalize hv : u + u / 256 = v at *
  have s5 : zi_w ((v : Int) + zi_ush (v : Int) 16) = ((v + v / 65536 : Nat) : Int) := by
    rw [show (16 : Int) = ((16 : Nat) : Int) from rfl, zi_shr_nat (by omega) (by decide), show ((v : Int) + ((v / 2 ^ 16 : Nat) : Int)) = ((v + v / 65536 : Nat) : Int) by omega, zi_w_n (by omega)]
  rw [s5, show (63 : Int) = ((63 : Nat) : Int) from rfl, zi_and_n (by omega) (by decide), show (63 : Nat) = 2 ^ 6 - 1 from rfl, Nat.and_two_pow_sub_one_eq_mod]
  rw [hn, ← a1, ← b1, ← c1, ← d1, show (2 : Nat) ^ 6 = 64 from rfl, zs_last4 a2 b2 c2 d2 hu hv]
  congr 2
  omega
end
section
/-! named, in the class: the pairs that a star tells apart; the least cover. -/
def yd_tri : Nat → Nat
  | 0 => 0
  | n + 1 => yd_tri n + n
theorem yd_tri_le {a b : Nat} (h : a ≤ b) : yd_tri a ≤ yd_tri b := by
  induction b with
  | zero => rw [show a = 0 by omega]; exact Nat.le_refl _
  | succ b ih =>
    by_cases e : a = b + 1
    · rw [e]; exact Nat.le_refl _
    · have := ih (by omega)
      show yd_tri a ≤ yd_tri b + b
      omega
theorem yd_tri_8 {p q : Nat} (hq : q < p) (hp : p < 8) : yd_tri p + q < 28 := by
  have := yd_tri_le (show p + 1 ≤ 8 by omega)
  have e : yd_tri 8 = 28 := rfl
  have e2 : yd_tri (p + 1) = yd_tri p + p := rfl
  omega
theorem yd_tri_u {p q p' q' : Nat} (hq : q < p) (hq' : q' < p') (e : yd_tri p + q = yd_tri p' + q') : p = p' ∧ q = q' := by
  by_cases lt : p < p'
  · have := yd_tri_le (show p + 1 ≤ p' by omega)
    have e2 : yd_tri (p + 1) = yd_tri p + p := rfl
    omega
  · by_cases gt : p' < p
    · have := yd_tri_le (show p' + 1 ≤ p by omega)
      have e2 : yd_tri (p' + 1) = yd_tri p' + p' := rfl
      omega
    · have ep : p = p' := by omega
      subst ep
      exact ⟨rfl, by omega⟩
def z28 (a : Int) : Prop := 0 ≤ a ∧ a < 268435456
def zin (a : Int) : Prop := -2147483648 ≤ a ∧ a ≤ 2147483647
theorem z28_in {a : Int} (h : z28 a) : zin a := ⟨by have := h.1; omega, by have := h.2; omega⟩
theorem z28_of {a : Int} (hz : zin a) (h : ∀ j, zb a j = true → j < 28) : z28 a := by
  obtain ⟨a1, a2⟩ := hz
  have h0 : 0 ≤ a := by
    apply Int.not_lt.mp
    intro hn
    have hs : zb a 31 = false := Bool.eq_false_iff.mpr fun w => absurd (h 31 w) (by decide)
    unfold zb at hs
    have e2 : (Int32.ofInt a).toBitVec.toInt = a := zi_of a1 a2
    have hm : (Int32.ofInt a).toBitVec.msb = false := by
      rw [BitVec.msb_eq_getLsbD_last]; exact hs
    rw [BitVec.toInt_eq_msb_cond, hm] at e2
    simp at e2
    omega
  refine ⟨h0, ?_⟩
  have hl : a.toNat < 2 ^ 28 := Nat.lt_pow_two_of_testBit _ fun i hi => by
    rw [← zb_tb h0 a2]
    exact Bool.eq_false_iff.mpr fun w => absurd (h i w) (by omega)
  omega
theorem z28_b {a : Int} (h : z28 a) {j : Nat} (hj : zb a j = true) : j < 28 := by
  by_cases c : j < 28
  · exact c
  · obtain ⟨h1, h2⟩ := h
    rw [zb_tb h1 (by omega), Nat.testBit_lt_two_pow (Nat.lt_of_lt_of_le (show a.toNat < 2 ^ 28 by omega) (Nat.pow_le_pow_right (by decide) (by omega)))] at hj
    cases hj
theorem zin_ext {a b : Int} (ha : zin a) (hb : zin b) (h : ∀ j, zb a j = true ↔ zb b j = true) : a = b := zb_ext ha.1 ha.2 hb.1 hb.2 fun j _ => Bool.eq_iff_iff.mpr (h j)
theorem zin_and {a b : Int} : zin (zi_and a b) := zi_ev_in (op := fun x y => x &&& y) (a := a) (b := b)
theorem zin_or {a b : Int} : zin (zi_or a b) := zi_ev_in (op := fun x y => x ||| y) (a := a) (b := b)
theorem zin_0 : zin 0 := ⟨by decide, by decide⟩
theorem zin_and0 {a b : Int} : zi_and a b = 0 ↔ ∀ j, ¬ (zb a j = true ∧ zb b j = true) := by
  constructor
  · intro h j w
    have : zb (zi_and a b) j = true := by rw [zb_and, w.1, w.2]; rfl
    rw [h, zb_0] at this; cases this
  · intro h
    refine zin_ext zin_and zin_0 fun j => ?_
    rw [zb_and, Bool.and_eq_true, zb_0]
    exact ⟨fun w => absurd w (h j), fun w => (by cases w)⟩
/-- the pairs that a star tells apart -/
def yd_or (n i : Nat) (sh : Int → Int) (b : Nat) : Prop := ∃ p q : Nat, q < p ∧ p < n ∧ b = yd_tri p + q ∧ zb (sh p) i ≠ zb (sh q) i
theorem yd_pairs {n i : Nat} {sh : Int → Int} (hn : n ≤ 8) (hi : i < 24) : zh_ok (zf_Chooser_pairsApart (i : Int) (n : Int) sh) fun s => z28 s ∧ ∀ b, zb s b = true ↔ yd_or n i sh b := by
  unfold zf_Chooser_pairsApart
  refine zh_bind (Q := fun s => z28 s ∧ ∀ b, zb s b = true ↔ yd_or n i sh b) (zh_loop (F := fun f j (a : Int × Int) => zf_Chooser_pairsApart_l0 (i : Int) (n : Int) sh f a.1 a.2 j) (N := (n : Int)) (I := fun j a => a.2 = (yd_tri j.toNat : Int) ∧ zin a.1 ∧ ∀ b, zb a.1 b = true ↔ yd_or j.toNat i sh b) (fun f j a j0 j1 hI k => ?_) 8 0 (0, 0) zi_fu (by omega) (by decide) (by omega) (by decide) ⟨rfl, zin_0, fun b => by
    show zb 0 b = true ↔ _
    rw [zb_0]
    exact ⟨fun h => (by cases h), fun ⟨p, q, _, hp, _⟩ => by have hp : p < 0 := hp; omega⟩⟩) fun s hs => zh_ret hs
  obtain ⟨x3, x4⟩ := a
  obtain ⟨v, rfl⟩ : ∃ v : Nat, j = v := ⟨j.toNat, by omega⟩
  obtain ⟨h1, h2, h3⟩ := hI
  have h1 : x4 = (yd_tri v : Int) := h1
  have h2 : zin x3 := h2
  have h3 : ∀ b, zb x3 b = true ↔ yd_or v i sh b := h3
  show zh_ok (zf_Chooser_pairsApart_l0_b (i : Int) (n : Int) sh (zf_Chooser_pairsApart_l0 (i : Int) (n : Int) sh f) x3 x4 v) _
  unfold zf_Chooser_pairsApart_l0_b
  refine zh_ite (fun hj => ?_) fun hj => zh_ret ?_
  · rw [zi_w_id (x := (v : Int) + 1) (by omega) (by omega)]
    have ev : ((v : Int) + 1).toNat = v + 1 := by omega
    refine zh_bind (Q := fun o => o.2 = (yd_tri (v + 1) : Int) ∧ zin o.1 ∧ ∀ b, zb o.1 b = true ↔ yd_or (v + 1) i sh b) (zh_loop (F := fun f q (a : Int × Int) => zf_Chooser_pairsApart_l1 (i : Int) (v : Int) sh f a.1 a.2 q) (N := (v : Int)) (I := fun q a => a.2 = (yd_tri v : Int) + q ∧ zin a.1 ∧ ∀ b, zb a.1 b = true ↔ yd_or v i sh b ∨ ∃ q' : Nat, (q' : Int) < q ∧ b = yd_tri v + q' ∧ zb (sh v) i ≠ zb (sh q') i) (fun f q a q0 q1 hI k2 => ?_) 8 0 (x3, x4) zi_fu (by omega) (by decide) (by omega) (by decide) ⟨by rw [h1]; omega, h2, fun b => by
      show zb x3 b = true ↔ _
      rw [h3]
      exact ⟨fun h => .inl h, fun h => h.elim id fun ⟨q', hq, _⟩ => by omega⟩⟩) fun o ho => k (o.1, o.2) hj ⟨by rw [ev]; exact ho.1, ho.2.1, by rw [ev]; exact ho.2.2⟩
    obtain ⟨y3, y4⟩ := a
    obtain ⟨u, rfl⟩ : ∃ u : Nat, q = u := ⟨q.toNat, by omega⟩
    obtain ⟨g1, g2, g3⟩ := hI
    have g1 : y4 = (yd_tri v : Int) + u := g1
    have g2 : zin y3 := g2
    have g3 : ∀ b, zb y3 b = true ↔ yd_or v i sh b ∨ ∃ q' : Nat, (q' : Int) < (u : Int) ∧ b = yd_tri v + q' ∧ zb (sh v) i ≠ zb (sh q') i := g3
    show zh_ok (zf_Chooser_pairsApart_l1_b (i : Int) (v : Int) sh (zf_Chooser_pairsApart_l1 (i : Int) (v : Int) sh f) y3 y4 u) _
    unfold zf_Chooser_pairsApart_l1_b
    refine zh_ite (fun hq => ?_) fun hq => zh_ret ?_
    · have lt := yd_tri_8 (p := v) (q := u) (by omega) (by omega)
      rw [zl_ci (a := (v : Int)) (by omega) (by omega), zl_ci q0 (by omega), zi_w_id (x := (u : Int) + 1) (by omega) (by omega), zi_w_id (x := y4 + 1) (by omega) (by omega)]
      have ey : y4 = ((yd_tri v + u : Nat) : Int) := by omega
      by_cases hb : zb (zi_xor (sh v) (sh u)) i = true
      · have hne : zb (sh v) i ≠ zb (sh u) i := by
          rw [zb_xor] at hb
          intro e
          rw [e, Bool.xor_self] at hb; cases hb
        rw [zb_bit1 (t := zi_xor (sh v) (sh u)) (i := (i : Int)) (by omega) (by omega) hb, if_neg (show ¬ (1 : Int) = 0 by decide)]
        refine k2 (_, _) hq ⟨by show y4 + 1 = _; omega, zin_or, fun b => ?_⟩
        show zb (zi_or y3 (zi_shl 1 y4)) b = true ↔ _
        rw [zb_or, Bool.or_eq_true, g3, ey, zb_shl (by omega) (by omega), decide_eq_true_iff, Int.toNat_natCast]
        constructor
        · rintro ((h | ⟨q', w1, w2⟩) | h)
          · exact .inl h
          · exact .inr ⟨q', by omega, w2⟩
          · exact .inr ⟨u, by omega, h, hne⟩
        · rintro (h | ⟨q', w1, w2, w3⟩)
          · exact .inl (.inl h)
          · by_cases e : q' = u
            · subst e; exact .inr w2
            · exact .inl (.inr ⟨q', by omega, w2, w3⟩)
      · have heq : zb (sh v) i = zb (sh u) i := by
          rw [zb_xor] at hb
          cases a : zb (sh v) i <;> cases b : zb (sh u) i <;> rw [a, b] at hb <;> first | rfl | exact absurd rfl hb
        rw [zb_bit0 (t := zi_xor (sh v) (sh u)) (i := (i : Int)) (by omega) (by omega) hb, if_pos rfl]
        refine k2 (_, _) hq ⟨by show y4 + 1 = _; omega, g2, fun b => ?_⟩
        show zb y3 b = true ↔ _
        rw [g3]
        constructor
        · rintro (h | ⟨q', w1, w2⟩)
          · exact .inl h
          · exact .inr ⟨q', by omega, w2⟩
        · rintro (h | ⟨q', w1, w2, w3⟩)
          · exact .inl h
          · by_cases e : q' = u
            · subst e; exact absurd heq w3
            · exact .inr ⟨q', by omega, w2, w3⟩
    · have eu : u = v := by omega
      subst eu
      refine ⟨by show y4 = ((yd_tri u + u : Nat) : Int); omega, g2, fun b => ?_⟩
      show zb y3 b = true ↔ _
      rw [g3]
      constructor
      · rintro (⟨p, q, w1, w2, w3⟩ | ⟨q', w1, w2, w3⟩)
        · exact ⟨p, q, w1, by omega, w3⟩
        · exact ⟨u, q', by omega, by omega, w2, w3⟩
      · rintro ⟨p, q, w1, w2, w3, w4⟩
        by_cases e : p = u
        · subst e; exact .inr ⟨q, by omega, w3, w4⟩
        · exact .inl ⟨p, q, w1, by omega, w3, w4⟩
  · have ev : v = n := by omega
    subst ev
    refine ⟨z28_of h2 fun b hb => ?_, h3⟩
    obtain ⟨p, q, w1, w2, w3, -⟩ := (h3 b).mp hb
    rw [w3]
    exact yd_tri_8 w1 (by omega)
/-- cover -/
def yd_cv (g : Int → Int) (c need : Int) : Prop := ∀ b, zb need b = true → ∃ i : Nat, i < 24 ∧ zb c i = true ∧ zb (g i) b = true
theorem yd_or_add {a : Int} {m : Nat} (ha : z24 a) (hb : ∀ j, zb a j = true → j < m) (hm : m < 24) : zi_or a (zi_shl 1 (m : Int)) = a + ((2 ^ m : Nat) : Int) ∧ a < ((2 ^ m : Nat) : Int) := by
  have hl : a.toNat < 2 ^ m := Nat.lt_pow_two_of_testBit _ fun i hi => by
    rw [← zb_tb ha.1 (by have := ha.2; omega)]
    exact Bool.eq_false_iff.mpr fun w => absurd (hb i w) (by omega)
  have h0 := ha.1
  have h2 := ha.2
  refine ⟨?_, by omega⟩
  rw [zi_set h0 (by omega) (by omega) (by omega), Int.toNat_natCast]
  have e := Nat.two_pow_add_eq_or_of_lt hl 1
  rw [Nat.mul_one] at e
  rw [Nat.or_comm, ← e]
  omega
theorem yd_cover {g up : Int → Int} (hu : ∀ j : Nat, j < 24 → ∀ b, zb (up j) b = true ↔ ∃ l : Nat, l ≤ j ∧ zb (g l) b = true) : ∀ (n w : Nat) (x1 x2 x3 : Int), x1 < n → 0 ≤ x1 → x1 ≤ 100 → 0 ≤ x2 → x2 ≤ 24 → z28 x3 →
    (∀ c, z24 c → (∀ j : Nat, zb c j = true → (j : Int) < x2) → yn_n (zb c) 24 < x1 → ¬ yd_cv g c x3) →
    zh_ok (zg_Chooser_leastCover n w x1 x2 x3 g up) fun r => (r = -1 ∧ ∀ c, z24 c → (∀ j : Nat, zb c j = true → (j : Int) < x2) → yn_n (zb c) 24 = x1 → ¬ yd_cv g c x3) ∨ (r ≠ -1 ∧ z24 r ∧ (∀ j : Nat, zb r j = true → (j : Int) < x2) ∧ yn_n (zb r) 24 = x1 ∧ yd_cv g r x3 ∧ ∀ c, z24 c → (∀ j : Nat, zb c j = true → (j : Int) < x2) → yn_n (zb c) 24 = x1 → yd_cv g c x3 → r ≤ c) := by
  intro n
  induction n with
  | zero => intro w x1 x2 x3 h1 h2; omega
  | succ n ih =>
    intro w x1 x2 x3 h1 h2 h3 h4 h5 h6 hmin
    show zh_ok (zm_Chooser_leastCover (zg_Chooser_leastCover n) x1 x2 x3 g up) _
    unfold zm_Chooser_leastCover
    refine zh_ite (fun hpos => ?_) fun hpos => ?_
    · refine zh_sum (Q := fun o => match o with
        | .inl _ => ∀ c, z24 c → (∀ j : Nat, zb c j = true → (j : Int) < x2) → yn_n (zb c) 24 = x1 → ¬ yd_cv g c x3
        | .inr r => r ≠ -1 ∧ z24 r ∧ (∀ j : Nat, zb r j = true → (j : Int) < x2) ∧ yn_n (zb r) 24 = x1 ∧ yd_cv g r x3 ∧ ∀ c, z24 c → (∀ j : Nat, zb c j = true → (j : Int) < x2) → yn_n (zb c) 24 = x1 → yd_cv g c x3 → r ≤ c) (zh_loop (F := fun n2 j (_ : Unit) => zm_Chooser_leastCover_l0 (zg_Chooser_leastCover n) x1 x2 x3 g up n2 j) (N := x2) (I := fun i _ => ∀ c, z24 c → (∀ j : Nat, zb c j = true → (j : Int) < i) → yn_n (zb c) 24 = x1 → ¬ yd_cv g c x3) (fun n2 i _ i0 i1 hI k => ?_) 24 0 () zi_fu (by omega) (by decide) h4 (by decide) fun c c1 c2 c3 => ?_) (fun _ ha => zh_ret (.inl ⟨rfl, ha⟩)) fun r hr => zh_ret (.inr hr)
      · show zh_ok (zm_Chooser_leastCover_l0_b (zg_Chooser_leastCover n) x1 x2 x3 g up (zm_Chooser_leastCover_l0 (zg_Chooser_leastCover n) x1 x2 x3 g up n2) i) _
        unfold zm_Chooser_leastCover_l0_b
        refine zh_ite (fun hi => ?_) fun hi => zh_ret fun c c1 c2 => hI c c1 fun j hj => by have := c2 j hj; omega
        rw [if_pos (show i < 24 by omega), zl_ci i0 (by omega), zi_w_id (x := i + 1) (by omega) (by omega), zi_w_id (x := x1 - 1) (by omega) (by omega)]
        obtain ⟨m, rfl⟩ : ∃ m : Nat, i = m := ⟨i.toNat, by omega⟩
        have hm : m < 24 := by omega
        -- a set up to m, without m
        have cut : ∀ c, z24 c → (∀ j : Nat, zb c j = true → (j : Int) < (m : Int) + 1) → zb c m = true → z24 (zi_and c (zi_xor (zi_shl 1 (m : Int)) (-1))) ∧ (∀ j : Nat, zb (zi_and c (zi_xor (zi_shl 1 (m : Int)) (-1))) j = true → (j : Int) < (m : Int) ∧ zb c j = true) ∧ (∀ j : Nat, zb c j = true → j ≠ m → zb (zi_and c (zi_xor (zi_shl 1 (m : Int)) (-1))) j = true) := fun c c1 c2 c3 => by
          have zc := z24_and (b := zi_xor (zi_shl 1 (m : Int)) (-1)) c1
          refine ⟨zc, fun j hj => ?_, fun j hj hjm => ?_⟩
          · have j24 : j < 24 := by
              by_cases q : j < 24
              · exact q
              · rw [z24_b zc (by omega)] at hj; cases hj
            rw [zb_clr (by omega) (by omega) j24, Bool.and_eq_true, Bool.not_eq_true', decide_eq_false_iff_not, Int.toNat_natCast] at hj
            have := c2 j hj.1
            exact ⟨by omega, hj.1⟩
          · have j24 := c2 j hj
            rw [zb_clr (by omega) (by omega) (by omega), hj, decide_eq_false (by omega)]; rfl
        have step : (∀ c, z24 c → (∀ j : Nat, zb c j = true → (j : Int) < (m : Int) + 1) → zb c m = true → yn_n (zb c) 24 = x1 → ¬ yd_cv g c x3) → zh_ok (zm_Chooser_leastCover_l0 (zg_Chooser_leastCover n) x1 x2 x3 g up n2 ((m : Int) + 1)) _ := fun h => k () hi fun c c1 c2 c3 => by
          by_cases q : zb c m = true
          · exact h c c1 c2 q c3
          · refine hI c c1 (fun j hj => ?_) c3
            have := c2 j hj
            by_cases e : j = m
            · subst e; exact absurd hj q
            · omega
        refine zh_ite (fun hz => step fun c c1 c2 c3 c4 c5 => ?_) fun hz => zh_ite (fun hup => ?_) fun hup => step fun c c1 c2 c3 c4 c5 => ?_
        · obtain ⟨d1, d2, d3⟩ := cut c c1 c2 c3
          have cnt := yn_clr hm c3
          refine hmin _ d1 (fun j hj => by have := (d2 j hj).1; omega) (by omega) fun b hb => ?_
          obtain ⟨l, l1, l2, l3⟩ := c5 b hb
          refine ⟨l, l1, d3 l l2 fun e => ?_, l3⟩
          subst e
          exact zin_and0.mp hz b ⟨l3, hb⟩
        · obtain ⟨nd, end'⟩ : ∃ nd, nd = zi_and x3 (zi_xor (g (m : Int)) (-1)) := ⟨_, rfl⟩
          rw [← end']
          have bnd : ∀ b, zb nd b = true ↔ zb x3 b = true ∧ ¬ zb (g (m : Int)) b = true := fun b => by
            rw [end', zb_and]
            by_cases q : b < 32
            · rw [zb_not q, Bool.and_eq_true, Bool.not_eq_true', Bool.not_eq_true]
            · rw [zb_ge (a := x3) (by omega), Bool.false_and]
              exact ⟨fun w => (by cases w), fun w => (by cases w.1)⟩
          have znd : z28 nd := z28_of (by rw [end']; exact zin_and) fun b hb => z28_b h6 ((bnd b).mp hb).1
          have up' : ∀ c, yd_cv g c nd → z24 c → (∀ j : Nat, zb c j = true → (j : Int) < (m : Int)) → z24 (zi_or c (zi_shl 1 (m : Int))) ∧ yd_cv g (zi_or c (zi_shl 1 (m : Int))) x3 ∧ yn_n (zb (zi_or c (zi_shl 1 (m : Int)))) 24 = yn_n (zb c) 24 + 1 ∧ ∀ j : Nat, zb (zi_or c (zi_shl 1 (m : Int))) j = true ↔ zb c j = true ∨ j = m := fun c c1 c2 c3 => by
            have bb : ∀ j : Nat, zb (zi_or c (zi_shl 1 (m : Int))) j = true ↔ zb c j = true ∨ j = m := fun j => by
              rw [zb_or, Bool.or_eq_true, zb_shl (by omega) (by omega), decide_eq_true_iff, Int.toNat_natCast]
            refine ⟨z24_or c2 (z24_shl (by omega) (by omega)), fun b hb => ?_, ?_, bb⟩
            · by_cases q : zb (g (m : Int)) b = true
              · exact ⟨m, hm, (bb m).mpr (.inr rfl), q⟩
              · obtain ⟨l, l1, l2, l3⟩ := c1 b ((bnd b).mpr ⟨hb, q⟩)
                exact ⟨l, l1, (bb l).mpr (.inl l2), l3⟩
            · refine yn_add (k := m) (Bool.eq_false_iff.mpr fun w => by have := c3 m w; omega) ((bb m).mpr (.inr rfl)) 24 hm fun j _ hj => ?_
              rw [Bool.eq_iff_iff, bb]
              exact ⟨fun w => .inl w, fun w => w.elim id fun w => absurd w hj⟩
          have down : ∀ c, yd_cv g c x3 → z24 c → (∀ j : Nat, zb c j = true → (j : Int) < (m : Int) + 1) → zb c m = true → yd_cv g (zi_and c (zi_xor (zi_shl 1 (m : Int)) (-1))) nd := fun c c1 c2 c3 c4 b hb => by
            obtain ⟨d1, d2, d3⟩ := cut c c2 c3 c4
            obtain ⟨e1, e2⟩ := (bnd b).mp hb
            obtain ⟨l, l1, l2, l3⟩ := c1 b e1
            exact ⟨l, l1, d3 l l2 fun e => by subst e; exact e2 l3, l3⟩
          refine zh_bind (ih 0 (x1 - 1) (m : Int) nd (by omega) (by omega) (by omega) (by omega) (by omega) znd fun c c1 c2 c3 c4 => ?_) fun r hr => ?_
          · obtain ⟨u1, u2, u3, u4⟩ := up' c c4 c1 c2
            exact hmin _ u1 (fun j hj => by
              rcases (u4 j).mp hj with w | w
              · have := c2 j w; omega
              · omega) (by omega) u2
          · rcases hr with ⟨r1, r2⟩ | ⟨r1, r2, r3, r4, r5, r6⟩
            · rw [if_pos r1]
              refine step fun c c1 c2 c3 c4 c5 => ?_
              obtain ⟨d1, d2, d3⟩ := cut c c1 c2 c3
              have cnt := yn_clr hm c3
              exact r2 _ d1 (fun j hj => (d2 j hj).1) (by omega) (down c c5 c1 c2 c3)
            · rw [if_neg r1]
              obtain ⟨u1, u2, u3, u4⟩ := up' r r5 r2 r3
              obtain ⟨a1, a2⟩ := yd_or_add r2 (fun j hj => by have := r3 j hj; omega) hm
              have hr0 := r2.1
              refine zh_ret ⟨by have := u1.1; omega, u1, fun j hj => ?_, by omega, u2, fun c c1 c2 c3 c4 => ?_⟩
              · rcases (u4 j).mp hj with w | w
                · have := r3 j w; omega
                · omega
              · rw [a1]
                by_cases hb : ∃ j : Nat, zb c j = true ∧ m < j
                · obtain ⟨j, j1, j2⟩ := hb
                  rw [zb_tb c1.1 (by have := c1.2; omega)] at j1
                  have l1 := Nat.ge_two_pow_of_testBit j1
                  have l2 : 2 ^ (m + 1) ≤ 2 ^ j := Nat.pow_le_pow_right (by decide) (by omega)
                  rw [Nat.pow_succ] at l2
                  have := c1.1
                  omega
                · have c2' : ∀ j : Nat, zb c j = true → (j : Int) < (m : Int) + 1 := fun j hj => by
                    by_cases q : m < j
                    · exact absurd ⟨j, hj, q⟩ hb
                    · omega
                  by_cases q : zb c m = true
                  · obtain ⟨d1, d2, d3⟩ := cut c c1 c2' q
                    have cnt := yn_clr hm q
                    have le := r6 _ d1 (fun j hj => (d2 j hj).1) (by omega) (down c c4 c1 c2' q)
                    obtain ⟨b1, -⟩ := yd_or_add d1 (fun j hj => by have := (d2 j hj).1; omega) hm
                    rw [yh_back (w := (m : Int)) c1 (by omega) (by omega) q] at b1
                    omega
                  · exact absurd c4 (hI c c1 (fun j hj => by
                      have := c2' j hj
                      by_cases e : j = m
                      · subst e; exact absurd hj q
                      · omega) c3)
        · refine hup (zin_ext zin_and (z28_in h6) fun b => ?_)
          rw [zb_and, Bool.and_eq_true]
          refine ⟨fun w => w.2, fun w => ⟨?_, w⟩⟩
          obtain ⟨l, l1, l2, l3⟩ := c5 b w
          exact (hu m hm b).mpr ⟨l, by have := c2 l l2; omega, l3⟩
      · have e : c = 0 := (z24_z c1).mpr fun j _ => Bool.eq_false_iff.mpr fun w => by have := c2 j w; omega
        rw [e] at c3
        have : yn_n (zb 0) 24 = 0 := by decide +kernel
        omega
    · have n0 : yn_n (zb 0) 24 = 0 := by decide +kernel
      refine zh_ite (fun e => zh_ret (.inr ⟨by decide, z24_0, fun j hj => (by rw [zb_0] at hj; cases hj), by omega, fun b hb => (by rw [e, zb_0] at hb; cases hb), fun c c1 _ _ _ => c1.1⟩)) fun e => zh_ret (.inl ⟨rfl, fun c c1 c2 c3 c4 => e (zin_ext (z28_in h6) zin_0 fun b => ?_)⟩)
      rw [zb_0]
      refine ⟨fun w => ?_, fun w => (by cases w)⟩
      obtain ⟨l, l1, l2, -⟩ := c4 b w
      have l3 := yn_lt (f := fun _ => false) (g := zb c) (k := l) (by decide) l2 24 l1 fun i _ hi => (by cases hi)
      have l4 := (yn_in (f := fun _ => false) 24).1
      generalize yn_n (fun _ => false) 24 = a at l3 l4
      generalize yn_n (zb c) 24 = b2 at l3 c3
      omega
end
