/-! 93a.legs, 93b.fast, 93c.mfast, 93d.fastest, 93e.count, 94a.cons, 94b.cons2, 94c.head, 95a.types, 95b.sigs, 95c.runs, 95d.start, 96a.rep, 96b.whole, 96c.rep2, 96d.first, 96e.names, 97a.loop, 97b.law, 97c.inv, 97d.help, 98a.calls, 98b.calls, 98c.calls -/
section
/-! fastest: both sides answer the same. -/
section YLG
variable {L : zLW} {K V kd fr hf to C mk mf mh mt : Int → Int} {nc tS tL sP lP mc : Int} {t h u cl sc sr ch ts p i s : Int} {co ro br wc wr m gp gl : Int → Int} {hs us : Nat → Int} {cs rs : Nat → Int → Int}
/-- the place an hour on -/
def yw_nx (L : zLW) (tS cl sc sr h u : Int) (co ro br gl : Int → Int) (p i : Int) : Int := if yv_see L tS h u cl sc sr co ro br (p % 24) (p / 24) i = true then yg_st gl p (yg_tr (p % 24) (yv_st h co i)) (ro i - p / 24) else p
/-- the skies of the hours that come -/
def yw_sq (t h u cl sc sr ch ts : Int) (co ro br wc wr gl : Int → Int) (hs us : Nat → Int) (cs rs : Nat → Int → Int) : Prop :=
  (hs 0 = h ∧ us 0 = u ∧ cs 0 = co ∧ rs 0 = ro) ∧ ∀ k, zf_Sky_passHour (hs k) (us k) (cs k) wc (rs k) wr = some (hs (k + 1), us (k + 1), cs (k + 1), rs (k + 1)) ∧ yw_wo t (hs k) (us k) cl sc sr ch ts (cs k) (rs k) br wc wr gl
theorem yw_sq_ex (w : yw_wo t h u cl sc sr ch ts co ro br wc wr gl) : ∃ hs us cs rs, yw_sq t h u cl sc sr ch ts co ro br wc wr gl hs us cs rs := by
  have nx : ∀ q : {q : Int × Int × (Int → Int) × (Int → Int) // yw_wo t q.1 q.2.1 cl sc sr ch ts q.2.2.1 q.2.2.2 br wc wr gl}, ∃ q2 : {q : Int × Int × (Int → Int) × (Int → Int) // yw_wo t q.1 q.2.1 cl sc sr ch ts q.2.2.1 q.2.2.2 br wc wr gl}, zf_Sky_passHour q.1.1 q.1.2.1 q.1.2.2.1 wc q.1.2.2.2 wr = some q2.1 := fun q => by
    obtain ⟨gp, m, k, z⟩ := q.2
    obtain ⟨h', u', co', ro', m', e2, -, k3, e4⟩ := yk_pass k
    exact ⟨⟨(h', u', co', ro'), gp, m', k3, yk_sea_fr z fun j hj => e4 j (by omega) (by omega) (by omega)⟩, e2⟩
  obtain ⟨F, hF⟩ := Classical.axiomOfChoice nx
  refine ⟨fun k => (Nat.rec (motive := fun _ => {q : Int × Int × (Int → Int) × (Int → Int) // yw_wo t q.1 q.2.1 cl sc sr ch ts q.2.2.1 q.2.2.2 br wc wr gl}) ⟨(h, u, co, ro), w⟩ (fun _ q => F q) k).1.1, fun k => (Nat.rec (motive := fun _ => {q : Int × Int × (Int → Int) × (Int → Int) // yw_wo t q.1 q.2.1 cl sc sr ch ts q.2.2.1 q.2.2.2 br wc wr gl}) ⟨(h, u, co, ro), w⟩ (fun _ q => F q) k).1.2.1, fun k => (Nat.rec (motive := fun _ => {q : Int × Int × (Int → Int) × (Int → Int) // yw_wo t q.1 q.2.1 cl sc sr ch ts q.2.2.1 q.2.2.2 br wc wr gl}) ⟨(h, u, co, ro), w⟩ (fun _ q => F q) k).1.2.2.1, fun k => (Nat.rec (motive := fun _ => {q : Int × Int × (Int → Int) × (Int → Int) // yw_wo t q.1 q.2.1 cl sc sr ch ts q.2.2.1 q.2.2.2 br wc wr gl}) ⟨(h, u, co, ro), w⟩ (fun _ q => F q) k).1.2.2.2, ⟨rfl, rfl, rfl, rfl⟩, fun k => ⟨hF _, (Nat.rec (motive := fun _ => {q : Int × Int × (Int → Int) × (Int → Int) // yw_wo t q.1 q.2.1 cl sc sr ch ts q.2.2.1 q.2.2.2 br wc wr gl}) ⟨(h, u, co, ro), w⟩ (fun _ q => F q) k).2⟩⟩
def yw_pos (L : zLW) (tS cl sc sr : Int) (hs us : Nat → Int) (cs rs : Nat → Int → Int) (br gl : Int → Int) (p0 i : Int) : Nat → Int
  | 0 => p0
  | k + 1 => yw_nx L tS cl sc sr (hs k) (us k) (cs k) (rs k) br gl (yw_pos L tS cl sc sr hs us cs rs br gl p0 i k) i
theorem yw_nx_in (w : yw_wo t h u cl sc sr ch ts co ro br wc wr gl) (p1 : 0 ≤ p) (p2 : p < 288) (i1 : 0 ≤ i) (i2 : i < 24) : 0 ≤ yw_nx L tS cl sc sr h u co ro br gl p i ∧ yw_nx L tS cl sc sr h u co ro br gl p i < 288 := by
  obtain ⟨gp, m, ⟨-, -, -, -, -, -, -, ki⟩, -⟩ := w
  obtain ⟨⟨-, ⟨r1, r2⟩, -⟩, -, -⟩ := ki i i1 i2
  unfold yw_nx
  split
  · exact yg_st_in p1 p2 (by omega) (by omega)
  · exact ⟨p1, p2⟩
theorem yw_pos_in (q : yw_sq t h u cl sc sr ch ts co ro br wc wr gl hs us cs rs) (p1 : 0 ≤ p) (p2 : p < 288) (i1 : 0 ≤ i) (i2 : i < 24) : ∀ k, 0 ≤ yw_pos L tS cl sc sr hs us cs rs br gl p i k ∧ yw_pos L tS cl sc sr hs us cs rs br gl p i k < 288
  | 0 => ⟨p1, p2⟩
  | k + 1 => by
    obtain ⟨a, b⟩ := yw_pos_in q p1 p2 i1 i2 k
    exact yw_nx_in (q.2 k).2 a b i1 i2
theorem yw_stepE (R : yl_R L K V nc tS tL sP lP kd fr hf to mc C mk mf mh mt) (w : yw_wo t h u cl sc sr ch ts co ro br wc wr gl) (p1 : 0 ≤ p) (p2 : p < 288) (i1 : 0 ≤ i) (i2 : i < 24) (hti : zb t i.toNat = true) {f2 f3 as ho f14 : Int} {g S : Int → Int} (hc : yv_ca L sP h u co ro br as ho) :
    zh_ok (zf_Pilot_step p i f2 f3 h u t sc sr cl tS as ho nc f14 sP g co ro br kd hf to K S V gl) fun o => o.1 = yw_nx L tS cl sc sr h u co ro br gl p i ∧ yv_ca L sP h u co ro br o.2.2.2.1 o.2.2.2.2.1 := by
  obtain ⟨gp, m, k, z⟩ := w
  obtain ⟨as', ho', a', g', S', e, hc'⟩ := yx_step (f2 := f2) (f3 := f3) (f14 := f14) (g := g) (S := S) R k z p1 p2 i1 i2 hti hc
  exact ⟨_, e, rfl, hc'⟩
/-- all first legs, an hour on -/
theorem yw_sflE (R : yl_R L K V nc tS tL sP lP kd fr hf to mc C mk mf mh mt) (w : yw_wo t h u cl sc sr ch ts co ro br wc wr gl) {x y as ho a : Int} {G g S : Int → Int} (hc : yv_ca L sP h u co ro br as ho) (hG : ∀ i, 0 ≤ i → i < 24 → zb t i.toNat = true → 0 ≤ G i ∧ G i < 288) :
    zh_ok (zf_Pilot_stepFirstLegs t x y h u sc sr cl tS as ho nc a sP G g co ro br kd hf to K S V gl) fun o => yv_ca L sP h u co ro br o.2.2.1 o.2.2.2.1 ∧ ∀ i, 0 ≤ i → i < 24 → zb t i.toNat = true → o.2.2.2.2.2.1 i = yw_nx L tS cl sc sr h u co ro br gl (G i) i := by
  have tin : 0 ≤ t ∧ t ≤ 2147483647 := by obtain ⟨gp, m, ⟨⟨ht, -⟩, -⟩, -⟩ := w; exact ⟨ht.1, by have := ht.2; omega⟩
  unfold zf_Pilot_stepFirstLegs
  refine zh_bind (Q := fun o => yv_ca L sP h u co ro br o.2.2.1 o.2.2.2.1 ∧ ∀ i, 0 ≤ i → i < 24 → zb t i.toNat = true → o.2.2.2.2.2.1 i = yw_nx L tS cl sc sr h u co ro br gl (G i) i) (zh_loop (F := fun f j (b : Int × Int × Int × Int × Int × (Int → Int) × (Int → Int) × (Int → Int)) => zf_Pilot_stepFirstLegs_l0 t h u sc sr cl tS nc sP co ro br kd hf to K V gl f j b.1 b.2.1 b.2.2.1 b.2.2.2.1 b.2.2.2.2.1 b.2.2.2.2.2.1 b.2.2.2.2.2.2.1 b.2.2.2.2.2.2.2) (N := 24) (I := fun j o => yv_ca L sP h u co ro br o.2.2.1 o.2.2.2.1 ∧ (∀ i, 0 ≤ i → i < j → zb t i.toNat = true → o.2.2.2.2.2.1 i = yw_nx L tS cl sc sr h u co ro br gl (G i) i) ∧ ∀ i, j ≤ i → o.2.2.2.2.2.1 i = G i) (fun f j b j0 j1 ha kk => ?_) 24 0 (x, y, as, ho, a, G, g, S) zi_fu (by decide) (by decide) (by decide) (by decide) ⟨hc, fun i i0 i1 => by omega, fun _ _ => rfl⟩) fun q hq => zh_ret hq
  obtain ⟨b1, b2, b3, b4, b5, b6, b7, b8⟩ := b
  obtain ⟨a1, a2, a3⟩ := ha
  dsimp only at a1 a2 a3
  show zh_ok (zf_Pilot_stepFirstLegs_l0_b t h u sc sr cl tS nc sP co ro br kd hf to K V gl (zf_Pilot_stepFirstLegs_l0 t h u sc sr cl tS nc sP co ro br kd hf to K V gl f) j b1 b2 b3 b4 b5 b6 b7 b8) _
  unfold zf_Pilot_stepFirstLegs_l0_b
  refine zh_ite (fun hj => ?_) fun hj => zh_ret ⟨a1, fun i i0 i1 ht => a2 i i0 (by omega) ht⟩
  rw [ze_Sky_hasStar tin.1 tin.2, zl_b, zi_w_id (x := j + 1) (by omega) (by omega)]
  have k2 : ∀ c1 c2 c3 c4 c5 c6 c7 c8, yv_ca L sP h u co ro br c3 c4 → (∀ i, 0 ≤ i → i < j + 1 → zb t i.toNat = true → c6 i = yw_nx L tS cl sc sr h u co ro br gl (G i) i) → (∀ i, j + 1 ≤ i → c6 i = G i) → zh_ok (zf_Pilot_stepFirstLegs_l0 t h u sc sr cl tS nc sP co ro br kd hf to K V gl f (j + 1) c1 c2 c3 c4 c5 c6 c7 c8) _ := fun c1 c2 c3 c4 c5 c6 c7 c8 q1 q2 q3 => kk (c1, c2, c3, c4, c5, c6, c7, c8) hj ⟨q1, q2, q3⟩
  refine zh_ite (fun q => k2 _ _ _ _ _ _ _ _ a1 (fun i i0 i1 ht => ?_) fun i i1 => a3 i (by omega)) fun q => ?_
  · by_cases e : i = j
    · subst e
      have : zs_has 24 t i = 1 := by
        unfold zs_has
        rw [if_pos ⟨i0, hj, by rw [zb_tb2 tin.1 tin.2]; exact ht⟩]
      rw [this] at q
      exact absurd q (by decide)
    · exact a2 i i0 (by omega) ht
  · have hti := yw_hs tin.1 tin.2 q
    have hp := hG j j0 hj hti
    have ej := a3 j (Int.le_refl j)
    rw [ej]
    refine zh_cond (zi_ix_of j0 hj) (zh_bind (yw_stepE R w hp.1 hp.2 j0 hj hti a1) fun r5 h5 => k2 _ _ _ _ _ _ _ _ h5.2 (fun i i0 i1 ht => ?_) fun i i1 => ?_)
    · by_cases e : i = j
      · subst e; rw [zv_up_s]; exact h5.1
      · rw [zv_up_n e]; exact a2 i i0 (by omega) ht
    · rw [zv_up_n (by omega)]; exact a3 i (by omega)
end YLG
end
section
/-! fastest in the class: the first hour, the first star. -/
section YLF
variable {L : zLW} {K V kd fr hf to C mk mf mh mt : Int → Int} {nc tS tL sP lP mc : Int} {t h u cl sc sr ch ts p i s : Int} {co ro br wc wr m gp gl : Int → Int} {hs us : Nat → Int} {cs rs : Nat → Int → Int}
def yw_hit (t : Int) (P : Int → Nat → Int) (pl : Int) (n k : Nat) (i : Int) : Prop := (1 ≤ k ∧ k ≤ n) ∧ (0 ≤ i ∧ i < 24 ∧ zb t i.toNat = true ∧ P i k = pl) ∧ (∀ j, 0 ≤ j → j < i → zb t j.toNat = true → P j k ≠ pl) ∧ ∀ l j, 1 ≤ l → l < k → 0 ≤ j → j < 24 → zb t j.toNat = true → P j l ≠ pl
def yw_noh (t : Int) (P : Int → Nat → Int) (pl : Int) (n : Nat) : Prop := ∀ l j, 1 ≤ l → l ≤ n → 0 ≤ j → j < 24 → zb t j.toNat = true → P j l ≠ pl
theorem yw_turnE (q : yw_sq t h u cl sc sr ch ts co ro br wc wr gl hs us cs rs) {k : Nat} {as : Int} {g : Int → Int} : ∃ g', zf_Pilot_turnOnward (hs k) (us k) as (cs k) wc (rs k) wr g = some (hs (k + 1), us (k + 1), 0, cs (k + 1), rs (k + 1), g') := by
  obtain ⟨g', e5, -⟩ := ze_open (f := as) (g := g)
  refine ⟨g', ?_⟩
  unfold zf_Pilot_turnOnward
  rw [(q.2 k).1, zl_b, e5, zl_b]
theorem yw_l1E {x4 x7 : Int} (h1 : 0 ≤ t) (h2 : t ≤ 2147483647) {f3 f4 f5 f6 f11 f12 f14 : Int} {g0 g1 g2 g3 g9 g14 : Int → Int} :
    zh_ok (zf_Pilot_findFastest_l1 x4 x7 t f3 f4 f5 f6 f11 f12 f14 g0 g1 g2 g3 g9 g14 zi_fu 0) fun o => match o with
      | .inl _ => ∀ i, 0 ≤ i → i < 24 → zb t i.toNat = true → g0 i ≠ x4
      | .inr b => b.1 = 1 ∧ b.2.2.2.2.2.2.2.2.1 = x7 ∧ ∃ i, (0 ≤ i ∧ i < 24 ∧ zb t i.toNat = true ∧ g0 i = x4) ∧ (∀ j, 0 ≤ j → j < i → zb t j.toNat = true → g0 j ≠ x4) ∧ b.2.2.2.2.2.2.2.2.2.1 = i := by
  refine zh_loop (F := fun f j (_ : Unit) => zf_Pilot_findFastest_l1 x4 x7 t f3 f4 f5 f6 f11 f12 f14 g0 g1 g2 g3 g9 g14 f j) (N := 24) (I := fun j _ => ∀ i, 0 ≤ i → i < j → zb t i.toNat = true → g0 i ≠ x4) (fun f j b j0 j1 ha kk => ?_) 24 0 () zi_fu (by decide) (by decide) (by decide) (by decide) (fun i i0 i1 => by omega)
  show zh_ok (zf_Pilot_findFastest_l1_b x4 x7 t f3 f4 f5 f6 f11 f12 f14 g0 g1 g2 g3 g9 g14 (zf_Pilot_findFastest_l1 x4 x7 t f3 f4 f5 f6 f11 f12 f14 g0 g1 g2 g3 g9 g14 f) j) _
  unfold zf_Pilot_findFastest_l1_b
  refine zh_ite (fun hj => ?_) fun hj => zh_ret fun i i0 i1 ht => ha i i0 (by omega) ht
  rw [ze_Sky_hasStar h1 h2, zl_b, zi_w_id (x := j + 1) (by omega) (by omega)]
  refine zh_ite (fun q => kk () hj fun i i0 i1 ht => ?_) fun q => zh_cond (zi_ix_of j0 hj) (zh_ite (fun e => zh_ret ⟨rfl, rfl, j, ⟨j0, hj, yw_hs h1 h2 q, e⟩, ha, rfl⟩) fun e => kk () hj fun i i0 i1 ht => ?_)
  · by_cases e : i = j
    · subst e
      have : zs_has 24 t i = 1 := by
        unfold zs_has
        rw [if_pos ⟨i0, hj, by rw [zb_tb2 h1 h2]; exact ht⟩]
      rw [this] at q
      exact absurd q (by decide)
    · exact ha i i0 (by omega) ht
  · by_cases e2 : i = j
    · subst e2; exact e
    · exact ha i i0 (by omega) ht
theorem yw_findFE (R : yl_R L K V nc tS tL sP lP kd fr hf to mc C mk mf mh mt) (q : yw_sq t h u cl sc sr ch ts co ro br wc wr gl hs us cs rs) {x3 x4 x5 x y as ho a f16 f17 : Int} {G g S A : Int → Int} (hc : yv_ca L sP h u co ro br as ho) (q3 : 0 ≤ x3) (q4 : x3 < 288) (q5 : 0 ≤ x5) (q6 : x5 ≤ 48) (hne : x3 ≠ x4) :
    zh_ok (zf_Pilot_findFastest x3 x4 x5 t x y h u sc sr cl tS as ho nc a sP f16 f17 G g co ro br kd hf to K S V gl wc wr A) fun o => (o.1 = 1 ∧ ∃ (k : Nat) (i : Int), yw_hit t (fun i => yw_pos L tS cl sc sr hs us cs rs br gl x3 i) x4 x5.toNat k i ∧ o.2.2.2.2.2.2.2.2.1 = k ∧ o.2.2.2.2.2.2.2.2.2.1 = i) ∨ (o.1 = 0 ∧ yw_noh t (fun i => yw_pos L tS cl sc sr hs us cs rs br gl x3 i) x4 x5.toNat) := by
  have w : yw_wo t h u cl sc sr ch ts co ro br wc wr gl := by
    obtain ⟨⟨rfl, rfl, rfl, rfl⟩, q2⟩ := q
    exact (q2 0).2
  have tin : 0 ≤ t ∧ t ≤ 2147483647 := by obtain ⟨gp, m, ⟨⟨ht, -⟩, -⟩, -⟩ := w; exact ⟨ht.1, by have := ht.2; omega⟩
  unfold zf_Pilot_findFastest
  rw [if_neg hne]
  obtain ⟨G2, e1, hG⟩ := ze_fill24 (v := x3) (g := G)
  rw [e1, zl_b]
  refine zh_sum (Q := fun o => match o with
    | .inl _ => yw_noh t (fun i => yw_pos L tS cl sc sr hs us cs rs br gl x3 i) x4 x5.toNat
    | .inr o => o.1 = 1 ∧ ∃ (k : Nat) (i : Int), yw_hit t (fun i => yw_pos L tS cl sc sr hs us cs rs br gl x3 i) x4 x5.toNat k i ∧ o.2.2.2.2.2.2.2.2.1 = k ∧ o.2.2.2.2.2.2.2.2.2.1 = i) (zh_loop (F := fun f j (b : Int × Int × Int × Int × Int × Int × Int × (Int → Int) × (Int → Int) × (Int → Int) × (Int → Int) × (Int → Int) × (Int → Int)) => zf_Pilot_findFastest_l0 x4 x5 t sc sr cl tS nc sP br kd hf to K V gl wc wr f j b.1 b.2.1 b.2.2.1 b.2.2.2.1 b.2.2.2.2.1 b.2.2.2.2.2.1 b.2.2.2.2.2.2.1 b.2.2.2.2.2.2.2.1 b.2.2.2.2.2.2.2.2.1 b.2.2.2.2.2.2.2.2.2.1 b.2.2.2.2.2.2.2.2.2.2.1 b.2.2.2.2.2.2.2.2.2.2.2.1 b.2.2.2.2.2.2.2.2.2.2.2.2) (N := x5 + 1) (I := fun j o => ∃ k : Nat, j = k + 1 ∧ (o.2.2.1 = hs k ∧ o.2.2.2.1 = us k ∧ o.2.2.2.2.2.2.2.2.2.1 = cs k ∧ o.2.2.2.2.2.2.2.2.2.2.1 = rs k) ∧ yv_ca L sP (hs k) (us k) (cs k) (rs k) br o.2.2.2.2.1 o.2.2.2.2.2.1 ∧ (∀ i, 0 ≤ i → i < 24 → zb t i.toNat = true → o.2.2.2.2.2.2.2.1 i = yw_pos L tS cl sc sr hs us cs rs br gl x3 i k) ∧ yw_noh t (fun i => yw_pos L tS cl sc sr hs us cs rs br gl x3 i) x4 k) (fun f j b j0 j1 ha kk => ?_) 49 1 (x, y, h, u, as, ho, a, G2, g, co, ro, S, A) zi_fu (by omega) (by decide) (by omega) (by decide) ⟨0, rfl, ⟨q.1.1.symm, q.1.2.1.symm, q.1.2.2.1.symm, q.1.2.2.2.symm⟩, by rw [q.1.1, q.1.2.1, q.1.2.2.1, q.1.2.2.2]; exact hc, fun i i0 i1 _ => hG i i0 i1, fun l j l1 l2 => by omega⟩) (fun _ hq => zh_ret (.inr ⟨rfl, hq⟩)) fun _ hq => zh_ret (.inl hq)
  obtain ⟨b1, b2, b3, b4, b5, b6, b7, b8, b9, b10, b11, b12, b13⟩ := b
  obtain ⟨k, ek, ⟨rfl, rfl, rfl, rfl⟩, c2, hp, hn⟩ := ha
  dsimp only at c2 hp
  show zh_ok (zf_Pilot_findFastest_l0_b x4 x5 t sc sr cl tS nc sP br kd hf to K V gl wc wr (zf_Pilot_findFastest_l0 x4 x5 t sc sr cl tS nc sP br kd hf to K V gl wc wr f) j b1 b2 (hs k) (us k) b5 b6 b7 b8 b9 (cs k) (rs k) b12 b13) _
  unfold zf_Pilot_findFastest_l0_b
  refine zh_ite (fun hlt => zh_ret fun l j2 l1 l2 => hn l j2 l1 (by omega)) fun hle => ?_
  rw [zi_w_id (x := j + 1) (by omega) (by omega)]
  refine zh_bind (yw_sflE R (q.2 k).2 c2 fun i i0 i1 ht => by rw [hp i i0 i1 ht]; exact yw_pos_in q q3 q4 i0 i1 k) fun r4 h4 => ?_
  have hp2 : ∀ i, 0 ≤ i → i < 24 → zb t i.toNat = true → r4.2.2.2.2.2.1 i = yw_pos L tS cl sc sr hs us cs rs br gl x3 i (k + 1) := fun i i0 i1 ht => by
    rw [h4.2 i i0 i1 ht, hp i i0 i1 ht]; rfl
  refine zh_bind (yw_l1E tin.1 tin.2) fun o ho => ?_
  match o, ho with
  | .inl e, ho =>
    obtain ⟨g', e7⟩ := yw_turnE (k := k) (as := r4.2.2.1) (g := b13) q
    show zh_ok ((zf_Pilot_turnOnward (hs k) (us k) r4.2.2.1 (cs k) wc (rs k) wr b13).bind _) _
    rw [e7, zl_b]
    refine kk (r4.1, r4.2.1, hs (k + 1), us (k + 1), 0, r4.2.2.2.1, r4.2.2.2.2.1, r4.2.2.2.2.2.1, r4.2.2.2.2.2.2.1, cs (k + 1), rs (k + 1), r4.2.2.2.2.2.2.2, g') (by omega) ⟨k + 1, by omega, ⟨rfl, rfl, rfl, rfl⟩, yv_ca0, hp2, fun l j2 l1 l2 j3 j4 ht => ?_⟩
    by_cases e2 : l = k + 1
    · subst e2
      show yw_pos L tS cl sc sr hs us cs rs br gl x3 j2 (k + 1) ≠ x4
      rw [← hp2 j2 j3 j4 ht]
      exact ho j2 j3 j4 ht
    · exact hn l j2 l1 (by omega) j3 j4 ht
  | .inr e, ho =>
    obtain ⟨o1, o2, i, ⟨i0, i1, ht, e3⟩, o3, o4⟩ := ho
    refine zh_ret ⟨o1, k + 1, i, ⟨⟨by omega, by omega⟩, ⟨i0, i1, ht, by show yw_pos L tS cl sc sr hs us cs rs br gl x3 i (k + 1) = x4; rw [← hp2 i i0 i1 ht]; exact e3⟩, fun j2 j3 j4 ht2 => ?_, fun l j2 l1 l2 => hn l j2 l1 (by omega)⟩, by rw [o2, ek]; omega, o4⟩
    show yw_pos L tS cl sc sr hs us cs rs br gl x3 j2 (k + 1) ≠ x4
    rw [← hp2 j2 j3 (by omega) ht2]
    exact o3 j2 j3 j4 ht2
end YLF
end
section
/-! fastest in the reference: the first hour, the first star; both the same. -/
section YLM
variable {L : zLW} {K V kd fr hf to C mk mf mh mt : Int → Int} {nc tS tL sP lP mc : Int} {t h u cl sc sr ch ts p i s : Int} {co ro br wc wr m gp gl : Int → Int} {hs us : Nat → Int} {cs rs : Nat → Int → Int}
/-- the reference at hour k, the ship at q -/
def yw_mk (t cl sc sr ch ts s : Int) (br wc wr gl : Int → Int) (hs us : Nat → Int) (cs rs : Nat → Int → Int) (k : Nat) (q : Int) (m : Int → Int) : Prop := ∃ gp, yk_sky t (hs k) (us k) cl sc sr ch (cs k) (rs k) br wc wr m ∧ yk_sea ts gp gl m ∧ gp s = q
theorem ym_steerE (R : yl_R L K V nc tS tL sP lP kd fr hf to mc C mk mf mh mt) (sq : yw_sq t h u cl sc sr ch ts co ro br wc wr gl hs us cs rs) {k : Nat} {q : Int} (hm : yw_mk t cl sc sr ch ts s br wc wr gl hs us cs rs k q m) (s0 : 0 ≤ s) (s1 : s < 6) (i1 : 0 ≤ i) (i2 : i < 24) (hti : zb t i.toNat = true) {g S : Int → Int} :
    zh_ok (zf_M_steers s i 0 mc m mk g mh mt C S mf) fun o => yw_mk t cl sc sr ch ts s br wc wr gl hs us cs rs (k + 1) (yw_nx L tS cl sc sr (hs k) (us k) (cs k) (rs k) br gl q i) o.1 := by
  obtain ⟨gp, kk, z, rfl⟩ := hm
  obtain ⟨p1, p2⟩ := z.2 s s0 s1
  obtain ⟨g', S', e1⟩ := ym_steersFrom (g := g) (S := S) R kk z p1 p2 i1 i2 hti
  have hq := yw_nx_in (L := L) (tS := tS) (sq.2 k).2 p1 p2 i1 i2
  have z2 := yk_sea_up z s0 s1 hq.1 hq.2
  have k2 : yk_sky t (hs k) (us k) cl sc sr ch (cs k) (rs k) br wc wr (zv_up m (120 + s) (yw_nx L tS cl sc sr (hs k) (us k) (cs k) (rs k) br gl (gp s) i)) := yk_sky_fr kk fun j hj => zv_up_n (by omega)
  obtain ⟨h', u', co', ro', m', e2, e3, k3, e4⟩ := yk_pass k2
  have e5 := (sq.2 k).1
  rw [e2] at e5
  cases e5
  have z3 : yk_sea ts (zv_up gp s (yw_nx L tS cl sc sr (hs k) (us k) (cs k) (rs k) br gl (gp s) i)) gl m' := yk_sea_fr z2 fun j hj => e4 j (by omega) (by omega) (by omega)
  unfold zf_M_steers
  rw [if_pos rfl, zi_w_id (x := 120 + s) (by omega) (by omega), zl_ci (by omega) (by omega), z.1.2.2.2.1 s s0 s1, e1, zl_b]
  dsimp only
  show zh_ok ((zf_M_passes (zv_up m (120 + s) (yw_nx L tS cl sc sr (hs k) (us k) (cs k) (rs k) br gl (gp s) i))).bind _) _
  rw [e3, zl_b]
  exact zh_ret ⟨_, k3, z3, zv_up_s⟩
theorem yw_comesByE (R : yl_R L K V nc tS tL sP lP kd fr hf to mc C mk mf mh mt) (sq : yw_sq t h u cl sc sr ch ts co ro br wc wr gl hs us cs rs) {p0 : Int} (hm : yw_mk t cl sc sr ch ts s br wc wr gl hs us cs rs 0 p0 m) (s0 : 0 ≤ s) (s1 : s < 6) (i1 : 0 ≤ i) (i2 : i < 24) (hti : zb t i.toNat = true) {n : Int} (n0 : 0 ≤ n) (n1 : n ≤ 48) {g S : Int → Int} :
    zh_ok (zf_M_comesBy s i p n mc m mk g mh mt C S mf) fun o => (∃ k : Nat, (k : Int) ≤ n ∧ o.1 = k ∧ yw_pos L tS cl sc sr hs us cs rs br gl p0 i k = p ∧ ∀ l, l < k → yw_pos L tS cl sc sr hs us cs rs br gl p0 i l ≠ p) ∨ (o.1 = -1 ∧ ∀ l : Nat, (l : Int) ≤ n → yw_pos L tS cl sc sr hs us cs rs br gl p0 i l ≠ p) := by
  unfold zf_M_comesBy
  refine zh_sum (Q := fun o => match o with
    | .inl _ => ∀ l : Nat, (l : Int) ≤ n → yw_pos L tS cl sc sr hs us cs rs br gl p0 i l ≠ p
    | .inr o => ∃ k : Nat, (k : Int) ≤ n ∧ o.1 = k ∧ yw_pos L tS cl sc sr hs us cs rs br gl p0 i k = p ∧ ∀ l, l < k → yw_pos L tS cl sc sr hs us cs rs br gl p0 i l ≠ p) (zh_loop (F := fun f j (a : (Int → Int) × (Int → Int) × (Int → Int)) => zf_M_comesBy_l0 s i p n mc mk mh mt C mf f j a.1 a.2.1 a.2.2) (N := n + 1) (I := fun j a => ∃ k : Nat, j = k ∧ (j ≤ n → yw_mk t cl sc sr ch ts s br wc wr gl hs us cs rs k (yw_pos L tS cl sc sr hs us cs rs br gl p0 i k) a.1) ∧ ∀ l, l < k → yw_pos L tS cl sc sr hs us cs rs br gl p0 i l ≠ p) (fun f j a j0 j1 ha kk => ?_) 49 0 (m, g, S) zi_fu (by omega) (by decide) (by omega) (by decide) ⟨0, rfl, fun _ => hm, fun l hl => by omega⟩) (fun _ hq => zh_ret (.inr ⟨rfl, hq⟩)) fun _ hq => zh_ret (.inl hq)
  obtain ⟨a1, a2, a3⟩ := a
  obtain ⟨k, ek, hm2, hn⟩ := ha
  dsimp only at hm2
  show zh_ok (zf_M_comesBy_l0_b s i p n mc mk mh mt C mf (zf_M_comesBy_l0 s i p n mc mk mh mt C mf f) j a1 a2 a3) _
  unfold zf_M_comesBy_l0_b
  refine zh_ite (fun hlt => zh_ret fun l hl => hn l (by omega)) fun hle => ?_
  have hm3 := hm2 (by omega)
  rw [zi_w_id (x := 120 + s) (by omega) (by omega), zi_w_id (x := j + 1) (by omega) (by omega)]
  have hpos : a1 (120 + s) = yw_pos L tS cl sc sr hs us cs rs br gl p0 i k := by
    obtain ⟨gp2, -, z2, e⟩ := hm3
    rw [z2.1.2.2.2.1 s s0 s1, e]
  refine zh_cond (zi_ix_of (by omega) (by omega)) (zh_ite (fun e => zh_ret ⟨k, by omega, ek, by rw [← hpos]; exact e, hn⟩) fun e => ?_)
  have hn2 : ∀ l, l < k + 1 → yw_pos L tS cl sc sr hs us cs rs br gl p0 i l ≠ p := fun l hl => by
    by_cases e2 : l = k
    · subst e2; rw [← hpos]; exact e
    · exact hn l (by omega)
  refine zh_ite (fun hjn => zh_bind (ym_steerE R sq hm3 s0 s1 i1 i2 hti) fun r5 h5 => ?_) fun hjn => ?_
  · exact kk (_, _, _) (by omega) ⟨k + 1, by omega, fun _ => h5, hn2⟩
  · exact kk (_, _, _) (by omega) ⟨k + 1, by omega, fun h => by omega, hn2⟩
theorem yw_ml0 (R : yl_R L K V nc tS tL sP lP kd fr hf to mc C mk mf mh mt) (sq : yw_sq t h u cl sc sr ch ts co ro br wc wr gl hs us cs rs) {p0 : Int} {mA : Int → Int} (hmA : ∀ m2, (∀ j, 0 ≤ j → j < 422 → m2 j = mA j) → yw_mk t cl sc sr ch ts s br wc wr gl hs us cs rs 0 p0 m2) (b126 : mA 126 = t) (s0 : 0 ≤ s) (s1 : s < 6) {n : Int} (n0 : 1 ≤ n) (n1 : n ≤ 48) (tin : 0 ≤ t ∧ t ≤ 2147483647) (hne : p0 ≠ p) {m1 g S : Int → Int} :
    zh_ok (zf_M_fastest_l0 s n p mc mA mk mh mt C mf zi_fu 1000000000 (-2) 0 m1 g S) fun o => (∃ (k : Nat) (i : Int), yw_hit t (fun i => yw_pos L tS cl sc sr hs us cs rs br gl p0 i) p n.toNat k i ∧ o.1 = k ∧ o.2.1 = i) ∨ (o.1 = 1000000000 ∧ yw_noh t (fun i => yw_pos L tS cl sc sr hs us cs rs br gl p0 i) p n.toNat) := by
  refine zh_loop (F := fun f i (a : Int × Int × (Int → Int) × (Int → Int) × (Int → Int)) => zf_M_fastest_l0 s n p mc mA mk mh mt C mf f a.1 a.2.1 i a.2.2.1 a.2.2.2.1 a.2.2.2.2) (N := 24) (I := fun j a => (∃ (k : Nat) (i : Int), ((1 ≤ k ∧ (k : Int) ≤ n) ∧ (0 ≤ i ∧ i < j ∧ zb t i.toNat = true ∧ yw_pos L tS cl sc sr hs us cs rs br gl p0 i k = p) ∧ (∀ j2, 0 ≤ j2 → j2 < i → zb t j2.toNat = true → yw_pos L tS cl sc sr hs us cs rs br gl p0 j2 k ≠ p) ∧ ∀ l j2, 1 ≤ l → l < k → 0 ≤ j2 → j2 < j → zb t j2.toNat = true → yw_pos L tS cl sc sr hs us cs rs br gl p0 j2 l ≠ p) ∧ a.1 = k ∧ a.2.1 = i) ∨ (a.1 = 1000000000 ∧ ∀ (l : Nat) j2, (l : Int) ≤ n → 0 ≤ j2 → j2 < j → zb t j2.toNat = true → yw_pos L tS cl sc sr hs us cs rs br gl p0 j2 l ≠ p)) (fun f j a j0 j1 ha kk => ?_) 24 0 (1000000000, -2, m1, g, S) zi_fu (by decide) (by decide) (by decide) (by decide) (.inr ⟨rfl, fun l j2 _ h1 h2 => by omega⟩)
  obtain ⟨a1, a2, a3, a4, a5⟩ := a
  dsimp only at ha
  show zh_ok (zf_M_fastest_l0_b s n p mc mA mk mh mt C mf (zf_M_fastest_l0 s n p mc mA mk mh mt C mf f) a1 a2 j a3 a4 a5) _
  unfold zf_M_fastest_l0_b
  refine zh_ite (fun hj => ?_) fun hj => zh_ret ?_
  · obtain ⟨mB, e2, hB⟩ := ze_again (g0 := mA) (g := a3)
    have hmB := hmA mB hB
    have c126 : mB 126 = t := by rw [hB 126 (by decide) (by decide), b126]
    rw [e2, zl_b, ze_M_isTold (by rw [c126]; exact tin.1) (by rw [c126]; exact tin.2), c126, zl_b, zi_w_id (x := j + 1) (by omega) (by omega)]
    have k2 : ∀ (b1 b2 : Int) (b3 b4 b5 : Int → Int), ((∃ (k : Nat) (i : Int), ((1 ≤ k ∧ (k : Int) ≤ n) ∧ (0 ≤ i ∧ i < j + 1 ∧ zb t i.toNat = true ∧ yw_pos L tS cl sc sr hs us cs rs br gl p0 i k = p) ∧ (∀ j2, 0 ≤ j2 → j2 < i → zb t j2.toNat = true → yw_pos L tS cl sc sr hs us cs rs br gl p0 j2 k ≠ p) ∧ ∀ l j2, 1 ≤ l → l < k → 0 ≤ j2 → j2 < j + 1 → zb t j2.toNat = true → yw_pos L tS cl sc sr hs us cs rs br gl p0 j2 l ≠ p) ∧ b1 = k ∧ b2 = i) ∨ (b1 = 1000000000 ∧ ∀ (l : Nat) j2, (l : Int) ≤ n → 0 ≤ j2 → j2 < j + 1 → zb t j2.toNat = true → yw_pos L tS cl sc sr hs us cs rs br gl p0 j2 l ≠ p)) → zh_ok (zf_M_fastest_l0 s n p mc mA mk mh mt C mf f b1 b2 (j + 1) b3 b4 b5) _ := fun b1 b2 b3 b4 b5 hh => kk (b1, b2, b3, b4, b5) hj hh
    refine zh_ite (fun q6 => k2 _ _ _ _ _ ?_) fun q6 => ?_
    · have hno : ¬ zb t j.toNat = true := fun ht => by
        have : zs_has 24 t j = 1 := by
          unfold zs_has
          rw [if_pos ⟨j0, hj, by rw [zb_tb2 tin.1 tin.2]; exact ht⟩]
        rw [this] at q6
        exact absurd q6 (by decide)
      rcases ha with ⟨k, i, ⟨x1, ⟨x2, x3, x4, x5⟩, x6, x7⟩, x8, x9⟩ | ⟨x1, x2⟩
      · refine .inl ⟨k, i, ⟨x1, ⟨x2, by omega, x4, x5⟩, x6, fun l j2 l1 l2 y0 y1 ht => x7 l j2 l1 l2 y0 ?_ ht⟩, x8, x9⟩
        by_cases e : j2 = j
        · subst e; exact absurd ht hno
        · omega
      · refine .inr ⟨x1, fun l j2 l1 y0 y1 ht => x2 l j2 l1 y0 ?_ ht⟩
        by_cases e : j2 = j
        · subst e; exact absurd ht hno
        · omega
    · have hti := yw_hs tin.1 tin.2 q6
      refine zh_bind (yw_comesByE R sq hmB s0 s1 j0 hj hti (by omega) (by omega)) fun r18 h18 => ?_
      rcases h18 with ⟨k, k1, o1, pk, pl⟩ | ⟨o1, pl⟩
      · have kpos : 1 ≤ k := by
          rcases Nat.eq_zero_or_pos k with e | e
          · subst e; exact absurd pk hne
          · exact e
        rw [o1, if_neg (by omega)]
        rcases ha with ⟨kb, ib, ⟨x1, ⟨x2, x3, x4, x5⟩, x6, x7⟩, rfl, rfl⟩ | ⟨rfl, x2⟩
        · refine zh_ite (fun c1 => k2 _ _ _ _ _ (.inl ⟨kb, a2, ⟨x1, ⟨x2, by omega, x4, x5⟩, x6, fun l j2 l1 l2 y0 y1 ht => ?_⟩, rfl, rfl⟩)) fun c1 => zh_ite (fun c2 => zh_ite (fun c3 => by omega) fun _ => k2 _ _ _ _ _ (.inl ⟨kb, a2, ⟨x1, ⟨x2, by omega, x4, x5⟩, x6, fun l j2 l1 l2 y0 y1 ht => ?_⟩, rfl, rfl⟩)) fun c2 => k2 _ _ _ _ _ (.inl ⟨k, j, ⟨⟨kpos, k1⟩, ⟨j0, by omega, hti, pk⟩, fun j2 y0 y1 ht => x7 k j2 kpos (by omega) y0 y1 ht, fun l j2 l1 l2 y0 y1 ht => ?_⟩, rfl, rfl⟩)
          · by_cases e : j2 = j
            · subst e; exact pl l (by omega)
            · exact x7 l j2 l1 l2 y0 (by omega) ht
          · by_cases e : j2 = j
            · subst e; exact pl l (by omega)
            · exact x7 l j2 l1 l2 y0 (by omega) ht
          · by_cases e : j2 = j
            · subst e; exact pl l (by omega)
            · exact x7 l j2 l1 (by omega) y0 (by omega) ht
        · refine zh_ite (fun c1 => by omega) fun c1 => zh_ite (fun c2 => by omega) fun c2 => k2 _ _ _ _ _ (.inl ⟨k, j, ⟨⟨kpos, k1⟩, ⟨j0, by omega, hti, pk⟩, fun j2 y0 y1 ht => x2 k j2 k1 y0 y1 ht, fun l j2 l1 l2 y0 y1 ht => ?_⟩, rfl, rfl⟩)
          by_cases e : j2 = j
          · subst e; exact pl l (by omega)
          · exact x2 l j2 (by omega) y0 (by omega) ht
      · rw [o1, if_pos rfl]
        rcases ha with ⟨kb, ib, ⟨x1, ⟨x2, x3, x4, x5⟩, x6, x7⟩, rfl, rfl⟩ | ⟨rfl, x2⟩
        · refine k2 _ _ _ _ _ (.inl ⟨kb, a2, ⟨x1, ⟨x2, by omega, x4, x5⟩, x6, fun l j2 l1 l2 y0 y1 ht => ?_⟩, rfl, rfl⟩)
          by_cases e : j2 = j
          · subst e; exact pl l (by omega)
          · exact x7 l j2 l1 l2 y0 (by omega) ht
        · refine k2 _ _ _ _ _ (.inr ⟨rfl, fun l j2 l1 y0 y1 ht => ?_⟩)
          by_cases e : j2 = j
          · subst e; exact pl l l1
          · exact x2 l j2 l1 y0 (by omega) ht
  · rcases ha with ⟨k, i, ⟨x1, ⟨x2, x3, x4, x5⟩, x6, x7⟩, x8, x9⟩ | ⟨x1, x2⟩
    · exact .inl ⟨k, i, ⟨⟨x1.1, by omega⟩, ⟨x2, by omega, x4, x5⟩, x6, fun l j2 l1 l2 y0 y1 ht => x7 l j2 l1 l2 y0 (by omega) ht⟩, x8, x9⟩
    · exact .inr ⟨x1, fun l j2 l1 l2 y0 y1 ht => x2 l j2 (by omega) y0 (by omega) ht⟩
theorem yw_hit_1 {P : Int → Nat → Int} {pl : Int} {n k k2 : Nat} {i2 : Int} (a : yw_hit t P pl n k i) (b : yw_hit t P pl n k2 i2) : k = k2 ∧ i = i2 := by
  obtain ⟨⟨a1, a2⟩, ⟨a3, a4, a5, a6⟩, a7, a8⟩ := a
  obtain ⟨⟨b1, b2⟩, ⟨b3, b4, b5, b6⟩, b7, b8⟩ := b
  have e : k = k2 := by
    rcases Nat.lt_trichotomy k k2 with h | h | h
    · exact absurd a6 (b8 k i a1 h a3 a4 a5)
    · exact h
    · exact absurd b6 (a8 k2 i2 b1 h b3 b4 b5)
  subst e
  refine ⟨rfl, ?_⟩
  rcases Int.lt_trichotomy i i2 with h | h | h
  · exact absurd a6 (b7 i a3 h a5)
  · exact h
  · exact absurd b6 (a7 i2 b3 h b5)
theorem yw_hit_no {P : Int → Nat → Int} {pl : Int} {n k : Nat} (a : yw_hit t P pl n k i) (b : yw_noh t P pl n) : False := b k i a.1.1 a.1.2 a.2.1.1 a.2.1.2.1 a.2.1.2.2.1 a.2.1.2.2.2
end YLM
end
section
/-! fastest: the same answer. -/
section YLZ
theorem ze_lowE {x : Int} (hx : z24 x) (h0 : x ≠ 0) : ∃ r : Nat, r < 24 ∧ zb x r = true ∧ (∀ j, j < r → zb x j = false) ∧ zf_X_lowestOf x = some (r : Int) := by
  have hex : ∃ j, j < 24 ∧ zb x j = true := by
    by_cases q : ∃ j, j < 24 ∧ zb x j = true
    · exact q
    · refine absurd ((z24_z hx).mpr fun j hj => ?_) h0
      cases c : zb x j
      · rfl
      · exact absurd ⟨j, hj, c⟩ q
  obtain ⟨r, r1, r2, r3⟩ := yn_low 24 hex
  have hand : zi_and x (zi_w (-x)) = zi_shl 1 r := by
    refine z24_ext (z24_and hx) (z24_shl (by omega) (by omega)) fun j hj => ?_
    rw [zb_and, zb_neg hx.1 (by have := hx.2; omega) (by omega), zb_shl (by omega) (by omega), Int.toNat_natCast]
    by_cases e : j = r
    · subst e
      rw [r2, decide_eq_true (rfl : j = j)]
      have : ¬ ∃ i, i < j ∧ zb x i = true := fun ⟨i, a, b⟩ => by rw [r3 i a] at b; cases b
      rw [decide_eq_false this]; rfl
    · rw [decide_eq_false e]
      by_cases c : j < r
      · rw [r3 j c, Bool.false_and]
      · rw [decide_eq_true (⟨r, by omega, r2⟩ : ∃ i, i < j ∧ zb x i = true)]
        cases zb x j <;> rfl
  refine ⟨r, r1, r2, r3, ?_⟩
  unfold zf_X_lowestOf
  have hd : ∀ k : Nat, k < 24 → zf_Integer_bitCount (zi_w (zi_shl 1 k - 1)) = some (k : Int) := by
    have hd2 : ∀ k : Nat, k < 24 → (0 ≤ zi_w (zi_shl 1 k - 1) ∧ zi_w (zi_shl 1 k - 1) < 16777216) ∧ zs_sum (zi_w (zi_shl 1 k - 1)) 24 = k := by decide +kernel
    intro k hk
    obtain ⟨⟨a, b⟩, c⟩ := hd2 k hk
    rw [ze_bitCount a b, c]
  rw [hand, hd r r1, zl_b]
variable {L : zLW} {K V kd fr hf to C mk mf mh mt : Int → Int} {nc tS tL sP lP mc : Int} {t h u cl sc sr ch ts p i s : Int} {co ro br wc wr m gp gl : Int → Int} {hs us : Nat → Int} {cs rs : Nat → Int → Int}
/-- the answer, by the places of the hours -/
def yw_fa (t w : Int) (P : Int → Nat → Int) (p0 pl : Int) (n : Nat) (r : Int) : Prop :=
  (p0 = pl ∧ ∃ i : Nat, (i < 24 ∧ zb t i = true ∧ ∀ j, j < i → zb t j = false) ∧ r = if w = 0 then 0 else (i : Int)) ∨
  (p0 ≠ pl ∧ ((∃ (k : Nat) (i : Int), yw_hit t P pl n k i ∧ r = if w = 0 then (k : Int) else i) ∨ (yw_noh t P pl n ∧ r = -2)))
theorem yw_fa_1 {w : Int} {P : Int → Nat → Int} {p0 pl : Int} {n : Nat} {r r2 : Int} (a : yw_fa t w P p0 pl n r) (b : yw_fa t w P p0 pl n r2) : r = r2 := by
  rcases a with ⟨e, i, ⟨i1, i2, i3⟩, rfl⟩ | ⟨e, a⟩
  · rcases b with ⟨-, j, ⟨j1, j2, j3⟩, rfl⟩ | ⟨e2, -⟩
    · have : i = j := by
        rcases Nat.lt_trichotomy i j with h | h | h
        · rw [j3 i h] at i2; cases i2
        · exact h
        · rw [i3 j h] at j2; cases j2
      rw [this]
    · exact absurd e e2
  · rcases b with ⟨e2, -⟩ | ⟨-, b⟩
    · exact absurd e2 e
    · rcases a with ⟨k, i, a1, rfl⟩ | ⟨a1, rfl⟩
      · rcases b with ⟨k2, i2, b1, rfl⟩ | ⟨b1, rfl⟩
        · obtain ⟨rfl, rfl⟩ := yw_hit_1 a1 b1; rfl
        · exact absurd b1 (yw_hit_no a1)
      · rcases b with ⟨k2, i2, b1, rfl⟩ | ⟨b1, rfl⟩
        · exact absurd a1 (yw_hit_no b1)
        · rfl
def yw_fbad (ts t s x y n w : Int) : Prop := zs_has 6 ts s = 0 ∨ zs_pl x y = 0 ∨ t = 0 ∨ zs_in n 1 48 = 0 ∨ zs_in w 0 1 = 0
theorem yw_askE {s x y : Int} (h1 : 0 ≤ ts) (h2 : ts ≤ 2147483647) : zh_ok (zf_X_canAskVoyage s x y ts t) fun r => (r = 0 → zs_has 6 ts s = 0 ∨ zs_pl x y = 0 ∨ t = 0) ∧ (¬ r = 0 → ¬ zs_has 6 ts s = 0 ∧ ¬ zs_pl x y = 0 ∧ ¬ t = 0) := by
  unfold zf_X_canAskVoyage
  rw [ze_Sea_hasShip h1 h2, zl_b]
  refine zh_ite (fun q => zh_ret ⟨fun _ => .inl q, fun q2 => absurd rfl q2⟩) fun q1 => ?_
  rw [ze_X_isPlace, zl_b]
  exact zh_ite (fun q => zh_ret ⟨fun _ => .inr (.inl q), fun q2 => absurd rfl q2⟩) fun q2 => zh_ite (fun q => zh_ret ⟨fun _ => .inr (.inr q), fun q2 => absurd rfl q2⟩) fun q3 => zh_ret ⟨fun q => absurd q (by decide), fun _ => ⟨q1, q2, q3⟩⟩
theorem yw_fastXE (R : yl_R L K V nc tS tL sP lP kd fr hf to mc C mk mf mh mt) (k : yk_sky t h u cl sc sr ch co ro br wc wr m) (z : yk_sea ts gp gl m) {s x y n w : Int} {f2 f4 f6 f8 f10 f12 f14 f18 f19 f20 f22 f24 f26 f27 : Int} {g1 g3 g5 g7 g9 g10 g12 g13 g18 : Int → Int} (sq : yw_sq t h u cl sc sr ch ts (zv_cpy co g1 24) (zv_cpy ro g3 24) (zv_cpy br g5 24) (zv_cpy wc g7 24) (zv_cpy wr g9 24) gl hs us cs rs) :
    zh_ok (zf_X_fastest s x y n w ts t f2 h f4 u f6 cl f8 sc f10 sr f12 ch f14 f18 f19 f20 tS f22 nc f24 sP f26 f27 co g1 ro g3 br g5 wc g7 wr g9 g10 gp g12 g13 kd hf to K g18 V gl) fun o => (yw_fbad ts t s x y n w ∧ o.1 = -1) ∨ (¬ yw_fbad ts t s x y n w ∧ yw_fa t w (fun i => yw_pos L tS cl sc sr hs us cs rs (zv_cpy br g5 24) gl (gp s) i) (gp s) (24 * y + x) n.toNat o.1) := by
  obtain ⟨⟨ht, -⟩, -⟩ := id k
  obtain ⟨⟨t1, t2, -⟩, hb⟩ := id z
  unfold zf_X_fastest
  refine zh_bind (yw_askE t1 (by omega)) fun r1 h1 => zh_ite (fun q1 => zh_ret (.inl ⟨?_, rfl⟩)) fun q1 => ?_
  · rcases h1.1 q1 with a | a | a
    · exact .inl a
    · exact .inr (.inl a)
    · exact .inr (.inr (.inl a))
  obtain ⟨b1, b2, b3⟩ := h1.2 q1
  obtain ⟨s0, s1, -⟩ := zs_has_ne b1
  obtain ⟨x0, x1, y0, y1⟩ := zs_pl_ne b2
  rw [ze_X_isWithin, zl_b]
  refine zh_ite (fun q => zh_ret (.inl ⟨.inr (.inr (.inr (.inl q))), rfl⟩)) fun q2 => ?_
  rw [ze_X_isWithin, zl_b]
  refine zh_ite (fun q => zh_ret (.inl ⟨.inr (.inr (.inr (.inr q))), rfl⟩)) fun q3 => ?_
  have hgood : ¬ yw_fbad ts t s x y n w := fun hb => by
    rcases hb with a | a | a | a | a
    · exact b1 a
    · exact b2 a
    · exact b3 a
    · exact q2 a
    · exact q3 a
  obtain ⟨n0, n1⟩ := zs_in_ne q2
  unfold zf_Sky_copyFrom
  rw [zl_b]
  dsimp only
  obtain ⟨gA, e0, h0⟩ := ze_open (f := f18) (g := g10)
  rw [e0, zl_b, ze_X_placeOf x0 x1 y0 y1, zl_b]
  have hp := hb s s0 s1
  refine zh_cond (zi_ix_of s0 s1) (zh_bind (Q := fun o => (o.1 = 1 ∧ yw_fa t w (fun i => yw_pos L tS cl sc sr hs us cs rs (zv_cpy br g5 24) gl (gp s) i) (gp s) (24 * y + x) n.toNat (if w = 0 then o.2.2.2.2.2.2.2.2.1 else o.2.2.2.2.2.2.2.2.2.1)) ∨ (o.1 = 0 ∧ yw_fa t w (fun i => yw_pos L tS cl sc sr hs us cs rs (zv_cpy br g5 24) gl (gp s) i) (gp s) (24 * y + x) n.toNat (-2))) ?_ fun r11 h11 => zh_ite (fun c => ?_) fun c => ?_)
  · by_cases hne : gp s = 24 * y + x
    · obtain ⟨r, r1, r2, r3, e9⟩ := ze_lowE ht b3
      unfold zf_Pilot_findFastest
      rw [if_pos hne, e9, zl_b]
      refine zh_ret (.inl ⟨rfl, .inl ⟨hne, r, ⟨r1, r2, r3⟩, ?_⟩⟩)
      by_cases cw : w = 0
      · rw [if_pos cw]; (try rfl)
      · rw [if_neg cw]; (try rfl)
    · refine zh_mono (yw_findFE R sq yv_ca0 hp.1 hp.2 (by omega) n1 hne) fun o ho => ?_
      rcases ho with ⟨o1, kk, i, o2, o3, o4⟩ | ⟨o1, o2⟩
      · refine .inl ⟨o1, .inr ⟨hne, .inl ⟨kk, i, o2, ?_⟩⟩⟩
        by_cases cw : w = 0
        · rw [if_pos cw, if_pos cw, o3]
        · rw [if_neg cw, if_neg cw, o4]
      · exact .inr ⟨o1, .inr ⟨hne, .inr ⟨o2, rfl⟩⟩⟩
  · rcases h11 with ⟨a, -⟩ | ⟨-, a⟩
    · omega
    · exact zh_ret (.inr ⟨hgood, a⟩)
  · rcases h11 with ⟨-, a⟩ | ⟨a, -⟩
    · refine zh_ite (fun cw => zh_ret (.inr ⟨hgood, ?_⟩)) fun cw => zh_ret (.inr ⟨hgood, ?_⟩)
      · rw [if_pos cw] at a; exact a
      · rw [if_neg cw] at a; exact a
    · exact absurd a c
/-- the ship is there already -/
theorem yw_ml1 (R : yl_R L K V nc tS tL sP lP kd fr hf to mc C mk mf mh mt) (sq : yw_sq t h u cl sc sr ch ts co ro br wc wr gl hs us cs rs) {p0 : Int} {mA : Int → Int} (hmA : ∀ m2, (∀ j, 0 ≤ j → j < 422 → m2 j = mA j) → yw_mk t cl sc sr ch ts s br wc wr gl hs us cs rs 0 p0 m2) (b126 : mA 126 = t) (s0 : 0 ≤ s) (s1 : s < 6) {n : Int} (n0 : 1 ≤ n) (n1 : n ≤ 48) (tin : 0 ≤ t ∧ t ≤ 2147483647) {m1 g S : Int → Int} :
    zh_ok (zf_M_fastest_l0 s n p0 mc mA mk mh mt C mf zi_fu 0 (-2) 0 m1 g S) fun o => o.1 = 0 ∧ ((o.2.1 = -2 ∧ ∀ i : Int, 0 ≤ i → i < 24 → ¬ zb t i.toNat = true) ∨ ∃ i : Int, (0 ≤ i ∧ i < 24 ∧ zb t i.toNat = true) ∧ (∀ j : Int, 0 ≤ j → j < i → ¬ zb t j.toNat = true) ∧ o.2.1 = i) := by
  refine zh_loop (F := fun f i (a : Int × Int × (Int → Int) × (Int → Int) × (Int → Int)) => zf_M_fastest_l0 s n p0 mc mA mk mh mt C mf f a.1 a.2.1 i a.2.2.1 a.2.2.2.1 a.2.2.2.2) (N := 24) (I := fun j a => a.1 = 0 ∧ ((a.2.1 = -2 ∧ ∀ i : Int, 0 ≤ i → i < j → ¬ zb t i.toNat = true) ∨ ∃ i : Int, (0 ≤ i ∧ i < j ∧ zb t i.toNat = true) ∧ (∀ j : Int, 0 ≤ j → j < i → ¬ zb t j.toNat = true) ∧ a.2.1 = i)) (fun f j a j0 j1 ha kk => ?_) 24 0 (0, -2, m1, g, S) zi_fu (by decide) (by decide) (by decide) (by decide) ⟨rfl, .inl ⟨rfl, fun i i0 i1 => by omega⟩⟩
  obtain ⟨a1, a2, a3, a4, a5⟩ := a
  obtain ⟨e1, ha⟩ := ha
  dsimp only at e1 ha
  subst e1
  show zh_ok (zf_M_fastest_l0_b s n p0 mc mA mk mh mt C mf (zf_M_fastest_l0 s n p0 mc mA mk mh mt C mf f) 0 a2 j a3 a4 a5) _
  unfold zf_M_fastest_l0_b
  refine zh_ite (fun hj => ?_) fun hj => zh_ret ⟨rfl, ?_⟩
  · obtain ⟨mB, e2, hB⟩ := ze_again (g0 := mA) (g := a3)
    have hmB := hmA mB hB
    have c126 : mB 126 = t := by rw [hB 126 (by decide) (by decide), b126]
    rw [e2, zl_b, ze_M_isTold (by rw [c126]; exact tin.1) (by rw [c126]; exact tin.2), c126, zl_b, zi_w_id (x := j + 1) (by omega) (by omega)]
    have k2 : ∀ (b2 : Int) (b3 b4 b5 : Int → Int), ((b2 = -2 ∧ ∀ i : Int, 0 ≤ i → i < j + 1 → ¬ zb t i.toNat = true) ∨ ∃ i : Int, (0 ≤ i ∧ i < j + 1 ∧ zb t i.toNat = true) ∧ (∀ j : Int, 0 ≤ j → j < i → ¬ zb t j.toNat = true) ∧ b2 = i) → zh_ok (zf_M_fastest_l0 s n p0 mc mA mk mh mt C mf f 0 b2 (j + 1) b3 b4 b5) _ := fun b2 b3 b4 b5 hh => kk (0, b2, b3, b4, b5) hj ⟨rfl, hh⟩
    refine zh_ite (fun q6 => k2 _ _ _ _ ?_) fun q6 => ?_
    · have hno : ¬ zb t j.toNat = true := fun ht => by
        have : zs_has 24 t j = 1 := by
          unfold zs_has
          rw [if_pos ⟨j0, hj, by rw [zb_tb2 tin.1 tin.2]; exact ht⟩]
        rw [this] at q6
        exact absurd q6 (by decide)
      rcases ha with ⟨x1, x2⟩ | ⟨i, ⟨x1, x2, x3⟩, x4, x5⟩
      · refine .inl ⟨x1, fun i i0 i1 => ?_⟩
        by_cases e : i = j
        · subst e; exact hno
        · exact x2 i i0 (by omega)
      · exact .inr ⟨i, ⟨x1, by omega, x3⟩, x4, x5⟩
    · have hti := yw_hs tin.1 tin.2 q6
      refine zh_bind (yw_comesByE R sq hmB s0 s1 j0 hj hti (by omega) (by omega)) fun r18 h18 => ?_
      have o1 : r18.1 = 0 := by
        rcases h18 with ⟨k, -, o1, -, pl⟩ | ⟨-, pl⟩
        · rcases Nat.eq_zero_or_pos k with e | e
          · rw [o1, e]; rfl
          · exact absurd rfl (pl 0 e)
        · exact absurd rfl (pl 0 (by omega))
      rw [o1, if_neg (by decide), if_neg (by decide), if_pos rfl]
      rcases ha with ⟨rfl, x2⟩ | ⟨i, ⟨x1, x2, x3⟩, x4, rfl⟩
      · rw [if_pos rfl]
        exact k2 _ _ _ _ (.inr ⟨j, ⟨j0, by omega, hti⟩, fun l l0 l1 => x2 l l0 l1, rfl⟩)
      · rw [if_neg (by omega)]
        exact k2 _ _ _ _ (.inr ⟨a2, ⟨x1, by omega, x3⟩, x4, rfl⟩)
  · rcases ha with ⟨x1, x2⟩ | ⟨i, ⟨x1, x2, x3⟩, x4, x5⟩
    · exact .inl ⟨x1, fun i i0 i1 => x2 i i0 (by omega)⟩
    · exact .inr ⟨i, ⟨x1, by omega, x3⟩, x4, x5⟩
theorem yw_fastME (R : yl_R L K V nc tS tL sP lP kd fr hf to mc C mk mf mh mt) (k : yk_sky t h u cl sc sr ch co ro br wc wr m) (z : yk_sea ts gp gl m) (sq : yw_sq t h u cl sc sr ch ts co ro br wc wr gl hs us cs rs) {x y n w : Int} {aA g S : Int → Int} :
    zh_ok (zf_M_fastest s x y n w mc m aA mk g mh mt C S mf) fun o => ((yw_fbad ts t s x y n w ∧ o.1 = -1) ∨ (¬ yw_fbad ts t s x y n w ∧ yw_fa t w (fun i => yw_pos L tS cl sc sr hs us cs rs br gl (gp s) i) (gp s) (24 * y + x) n.toNat o.1)) ∧ ∀ j, 0 ≤ j → j < 422 → o.2.1 j = m j := by
  obtain ⟨⟨ht, k126⟩, -⟩ := id k
  obtain ⟨⟨t1, t2, e127, hsp, -⟩, hb⟩ := id z
  have tin : 0 ≤ t ∧ t ≤ 2147483647 := ⟨ht.1, by have := ht.2; omega⟩
  unfold zf_M_fastest
  rw [ze_M_isShip (by omega) (by omega), zl_b, e127]
  refine zh_ite (fun q => zh_ret ⟨.inl ⟨.inl q, rfl⟩, fun _ _ _ => rfl⟩) fun b1 => ?_
  rw [ze_M_isPlace, zl_b]
  refine zh_ite (fun q => zh_ret ⟨.inl ⟨.inr (.inl q), rfl⟩, fun _ _ _ => rfl⟩) fun b2 => ?_
  rw [ze_M_in, zl_b]
  refine zh_ite (fun q => zh_ret ⟨.inl ⟨.inr (.inr (.inr (.inl q))), rfl⟩, fun _ _ _ => rfl⟩) fun q2 => ?_
  rw [ze_M_in, zl_b]
  refine zh_ite (fun q => zh_ret ⟨.inl ⟨.inr (.inr (.inr (.inr q))), rfl⟩, fun _ _ _ => rfl⟩) fun q3 => ?_
  rw [k126]
  refine zh_ite (fun q => zh_ret ⟨.inl ⟨.inr (.inr (.inl q)), rfl⟩, fun _ _ _ => rfl⟩) fun b3 => ?_
  have hgood : ¬ yw_fbad ts t s x y n w := fun hb => by
    rcases hb with a | a | a | a | a
    · exact b1 a
    · exact b2 a
    · exact b3 a
    · exact q2 a
    · exact q3 a
  obtain ⟨s0, s1, -⟩ := zs_has_ne b1
  obtain ⟨x0, x1, y0, y1⟩ := zs_pl_ne b2
  obtain ⟨n0, n1⟩ := zs_in_ne q2
  obtain ⟨mA, e1, hA⟩ := ze_begins (g0 := m) (g := aA)
  rw [e1, zl_b, zl_b, zi_w_id (x := 120 + s) (by omega) (by omega), zi_w_id (x := 24 * y) (by omega) (by omega), zi_w_id (x := 24 * y + x) (by omega) (by omega)]
  have hmA : ∀ m2, (∀ j, 0 ≤ j → j < 422 → m2 j = mA j) → yw_mk t cl sc sr ch ts s br wc wr gl hs us cs rs 0 (gp s) m2 := fun m2 e => by
    obtain ⟨⟨rfl, rfl, rfl, rfl⟩, -⟩ := sq
    have e2 : ∀ j, 0 ≤ j → j < 422 → m2 j = m j := fun j j0 j1 => (e j j0 j1).trans (hA j j0 j1)
    exact ⟨gp, yk_sky_cg k (fun _ _ _ => rfl) (fun _ _ _ => rfl) (fun _ _ _ => rfl) (fun _ _ _ => rfl) (fun _ _ _ => rfl) e2, yk_sea_cg z (fun _ _ _ => rfl) (fun _ _ _ => rfl) e2, rfl⟩
  have b126 : mA 126 = t := by rw [hA 126 (by decide) (by decide), k126]
  have fin : ∀ m2, ∃ m3, zf_M_again mA m2 = some m3 ∧ ∀ j, 0 ≤ j → j < 422 → m3 j = m j := fun m2 => by
    obtain ⟨m3, e3, h3⟩ := ze_again (g0 := mA) (g := m2)
    exact ⟨m3, e3, fun j j0 j1 => by rw [h3 j j0 j1, hA j j0 j1]⟩
  refine zh_cond (zi_ix_of (by omega) (by omega)) ?_
  rw [hsp s s0 s1]
  refine zh_ite (fun he => ?_) fun hne => ?_
  · rw [← he]
    refine zh_bind (yw_ml1 R sq hmA b126 s0 s1 n0 n1 tin) fun q28 h28 => ?_
    obtain ⟨m3, e3, h3⟩ := fin q28.2.2.1
    obtain ⟨o1, ho⟩ := h28
    have ho : ∃ i : Int, (0 ≤ i ∧ i < 24 ∧ zb t i.toNat = true) ∧ (∀ j : Int, 0 ≤ j → j < i → ¬ zb t j.toNat = true) ∧ q28.2.1 = i := by
      rcases ho with ⟨-, hno⟩ | ho
      · exact absurd ((z24_z ht).mpr fun j hj => by
          cases c : zb t j
          · rfl
          · exact absurd c (hno (j : Int) (by omega) (by omega))) b3
      · exact ho
    obtain ⟨i, ⟨i0, i1, hti⟩, hlow, o2⟩ := ho
    have hfa : ∀ r, r = (if w = 0 then 0 else i) → yw_fa t w (fun i => yw_pos L tS cl sc sr hs us cs rs br gl (gp s) i) (gp s) (gp s) n.toNat r := fun r hr => .inl ⟨rfl, i.toNat, ⟨by omega, hti, fun j hj => by
      cases c : zb t j
      · rfl
      · exact absurd c (hlow (j : Int) (by omega) (by omega))⟩, by rw [hr, Int.toNat_of_nonneg i0]⟩
    rw [e3, zl_b, o1, if_neg (by decide)]
    exact zh_ite (fun cw => zh_ret ⟨.inr ⟨hgood, hfa _ (by rw [if_pos cw])⟩, h3⟩) fun cw => zh_ret ⟨.inr ⟨hgood, hfa _ (by rw [if_neg cw]; exact o2)⟩, h3⟩
  · refine zh_bind (yw_ml0 R sq hmA b126 s0 s1 n0 n1 tin hne) fun q28 h28 => ?_
    obtain ⟨m3, e3, h3⟩ := fin q28.2.2.1
    rw [e3, zl_b]
    rcases h28 with ⟨kk, i, o2, o3, o4⟩ | ⟨o1, o2⟩
    · have : kk ≤ n.toNat := o2.1.2
      rw [o3, if_neg (by omega)]
      exact zh_ite (fun cw => zh_ret ⟨.inr ⟨hgood, .inr ⟨hne, .inl ⟨kk, i, o2, by rw [if_pos cw]⟩⟩⟩, h3⟩) fun cw => zh_ret ⟨.inr ⟨hgood, .inr ⟨hne, .inl ⟨kk, i, o2, by rw [if_neg cw]; exact o4⟩⟩⟩, h3⟩
    · rw [o1, if_pos rfl]
      exact zh_ret ⟨.inr ⟨hgood, .inr ⟨hne, .inr ⟨o2, rfl⟩⟩⟩, h3⟩
theorem yo_fastest (R : yl_R L K V nc tS tL sP lP kd fr hf to mc C mk mf mh mt) (k : yk_sky t h u cl sc sr ch co ro br wc wr m) (z : yk_sea ts gp gl m) {s x y n w : Int} {f2 f4 f6 f8 f10 f12 f14 f18 f19 f20 f22 f24 f26 f27 : Int} {g1 g3 g5 g7 g9 g10 g12 g13 g18 aA g S : Int → Int} :
    ∃ o1 o2, zf_X_fastest s x y n w ts t f2 h f4 u f6 cl f8 sc f10 sr f12 ch f14 f18 f19 f20 tS f22 nc f24 sP f26 f27 co g1 ro g3 br g5 wc g7 wr g9 g10 gp g12 g13 kd hf to K g18 V gl = some o1 ∧ zf_M_fastest s x y n w mc m aA mk g mh mt C S mf = some o2 ∧ o1.1 = o2.1 ∧ ∀ j, 0 ≤ j → j < 422 → o2.2.1 j = m j := by
  have k2 : yk_sky t h u cl sc sr ch (zv_cpy co g1 24) (zv_cpy ro g3 24) (zv_cpy br g5 24) (zv_cpy wc g7 24) (zv_cpy wr g9 24) m := yk_sky_cg k (fun j j1 j2 => zv_cpy_in j2) (fun j j1 j2 => zv_cpy_in j2) (fun j j1 j2 => zv_cpy_in j2) (fun j j1 j2 => zv_cpy_in j2) (fun j j1 j2 => zv_cpy_in j2) (fun _ _ _ => rfl)
  obtain ⟨hs, us, cs, rs, sq⟩ := yw_sq_ex ⟨gp, m, k2, z⟩
  obtain ⟨o1, e1, h1⟩ := yw_fastXE (s := s) (x := x) (y := y) (n := n) (w := w) (f2 := f2) (f4 := f4) (f6 := f6) (f8 := f8) (f10 := f10) (f12 := f12) (f14 := f14) (f18 := f18) (f19 := f19) (f20 := f20) (f22 := f22) (f24 := f24) (f26 := f26) (f27 := f27) (g10 := g10) (g12 := g12) (g13 := g13) (g18 := g18) R k z sq
  obtain ⟨o2, e2, h2, h3⟩ := yw_fastME (s := s) (x := x) (y := y) (n := n) (w := w) (aA := aA) (g := g) (S := S) R k2 z sq
  refine ⟨o1, o2, e1, e2, ?_, h3⟩
  rcases h1 with ⟨a1, a2⟩ | ⟨a1, a2⟩
  · rcases h2 with ⟨-, b2⟩ | ⟨b1, -⟩
    · rw [a2, b2]
    · exact absurd a1 b1
  · rcases h2 with ⟨b1, -⟩ | ⟨-, b2⟩
    · exact absurd b1 a1
    · exact yw_fa_1 a2 b2
end YLZ
end
section
/-! How many ways: counting maps of names to stars, in any order of the names. -/
def yc_sum (f : Nat → Nat) : Nat → Nat
  | 0 => 0
  | k + 1 => yc_sum f k + f k
theorem yc_sum_cg {f g : Nat → Nat} : ∀ {k : Nat}, (∀ i, i < k → f i = g i) → yc_sum f k = yc_sum g k
  | 0, _ => rfl
  | k + 1, h => by
    show yc_sum f k + f k = yc_sum g k + g k
    rw [yc_sum_cg fun i hi => h i (by omega), h k (by omega)]
theorem yc_sum_add {f g : Nat → Nat} : ∀ k : Nat, yc_sum (fun i => f i + g i) k = yc_sum f k + yc_sum g k
  | 0 => rfl
  | k + 1 => by
    show yc_sum (fun i => f i + g i) k + (f k + g k) = yc_sum f k + f k + (yc_sum g k + g k)
    rw [yc_sum_add k]; omega
theorem yc_sum_0 : ∀ k : Nat, yc_sum (fun _ => 0) k = 0
  | 0 => rfl
  | k + 1 => by
    show yc_sum (fun _ => 0) k + 0 = 0
    rw [yc_sum_0 k]
theorem yc_sum_swap {f : Nat → Nat → Nat} {m : Nat} : ∀ k : Nat, yc_sum (fun i => yc_sum (fun j => f i j) m) k = yc_sum (fun j => yc_sum (fun i => f i j) k) m
  | 0 => (yc_sum_0 m).symm
  | k + 1 => by
    show yc_sum (fun i => yc_sum (fun j => f i j) m) k + yc_sum (fun j => f k j) m = yc_sum (fun j => yc_sum (fun i => f i j) k + f k j) m
    rw [yc_sum_swap k, yc_sum_add m]
theorem yc_sum_if {b : Bool} {f : Nat → Nat} {k : Nat} : (if b = true then yc_sum f k else 0) = yc_sum (fun i => if b = true then f i else 0) k := by
  cases b with
  | true => rfl
  | false => exact (yc_sum_0 k).symm
/-- what is left when a name is a star -/
def yc_nw (nr J row : Nat → Nat → Bool) (a i : Nat) : Nat → Nat → Bool := fun b j => row b j && (!(Nat.beq j i) && (!(nr a b) || J i j))
def yc (nr J : Nat → Nat → Bool) : List Nat → (Nat → Nat → Bool) → Nat
  | [], _ => 1
  | a :: ns, row => yc_sum (fun i => if row a i = true then yc nr J ns (yc_nw nr J row a i) else 0) 24
section YCNT
variable {nr J row row2 : Nat → Nat → Bool}
theorem yc_cg : ∀ {ns : List Nat} {row row2 : Nat → Nat → Bool}, (∀ b ∈ ns, ∀ j, j < 24 → row b j = row2 b j) → yc nr J ns row = yc nr J ns row2
  | [], _, _, _ => rfl
  | a :: ns, row, row2, h => by
    refine yc_sum_cg fun i hi => ?_
    rw [h a List.mem_cons_self i hi]
    by_cases c : row2 a i = true
    · rw [if_pos c, if_pos c]
      refine yc_cg fun b hb j hj => ?_
      unfold yc_nw
      rw [h b (List.mem_cons_of_mem _ hb) j hj]
    · rw [if_neg c, if_neg c]
theorem yc_2 {a b : Nat} {ns : List Nat} : yc nr J (a :: b :: ns) row = yc_sum (fun i => yc_sum (fun j => if (row a i && yc_nw nr J row a i b j) = true then yc nr J ns (yc_nw nr J (yc_nw nr J row a i) b j) else 0) 24) 24 := by
  refine yc_sum_cg fun i hi => ?_
  show (if row a i = true then yc_sum (fun j => if yc_nw nr J row a i b j = true then yc nr J ns (yc_nw nr J (yc_nw nr J row a i) b j) else 0) 24 else 0) = _
  rw [yc_sum_if]
  refine yc_sum_cg fun j hj => ?_
  cases row a i <;> rfl
theorem yc_swap (hn : ∀ a b, nr a b = nr b a) (hJ : ∀ i j, J i j = J j i) {a b : Nat} {ns : List Nat} : yc nr J (a :: b :: ns) row = yc nr J (b :: a :: ns) row := by
  rw [yc_2, yc_2, yc_sum_swap]
  refine yc_sum_cg fun j hj => yc_sum_cg fun i hi => ?_
  have e : (row a i && yc_nw nr J row a i b j) = (row b j && yc_nw nr J row b j a i) := by
    unfold yc_nw
    rw [hn b a, hJ j i, show Nat.beq j i = Nat.beq i j from by rw [Bool.eq_iff_iff, Nat.beq_eq, Nat.beq_eq]; exact eq_comm]
    cases row a i <;> cases row b j <;> rfl
  rw [e]
  by_cases c : (row b j && yc_nw nr J row b j a i) = true
  · rw [if_pos c, if_pos c]
    refine yc_cg fun d hd k hk => ?_
    unfold yc_nw
    cases row d k <;> cases Nat.beq k i <;> cases Nat.beq k j <;> cases nr a d <;> cases nr b d <;> cases J i k <;> cases J j k <;> rfl
  · rw [if_neg c, if_neg c]
theorem yc_front (hn : ∀ a b, nr a b = nr b a) (hJ : ∀ i j, J i j = J j i) {a : Nat} : ∀ {ns : List Nat} {row : Nat → Nat → Bool}, a ∈ ns → yc nr J ns row = yc nr J (a :: ns.erase a) row
  | b :: ns, row, h => by
    by_cases e : b = a
    · subst e; rw [List.erase_cons_head]
    · have hm : a ∈ ns := by
        rcases List.mem_cons.mp h with h | h
        · exact absurd h.symm e
        · exact h
      rw [List.erase_cons_tail (by simpa using e), ← yc_swap hn hJ]
      refine yc_sum_cg fun i hi => ?_
      rw [yc_front hn hJ hm]
/-- stars given anew -/
theorem yc_ren {π : Nat → Nat} (hp : ∀ i, i < 24 → π i < 24) (hpp : ∀ i, π (π i) = i) (hJ : ∀ i j, i < 24 → j < 24 → J (π i) (π j) = J i j) (hs : ∀ f : Nat → Nat, yc_sum (fun i => f (π i)) 24 = yc_sum f 24) : ∀ {ns : List Nat} {row : Nat → Nat → Bool}, yc nr J ns (fun b j => row b (π j)) = yc nr J ns row
  | [], _ => rfl
  | a :: ns, row => by
    show yc_sum (fun i => if row a (π i) = true then yc nr J ns (yc_nw nr J (fun b j => row b (π j)) a i) else 0) 24 = yc_sum (fun i => if row a i = true then yc nr J ns (yc_nw nr J row a i) else 0) 24
    rw [← hs (fun i => if row a i = true then yc nr J ns (yc_nw nr J row a i) else 0)]
    refine yc_sum_cg fun i hi => ?_
    show _ = if row a (π i) = true then yc nr J ns (yc_nw nr J row a (π i)) else 0
    by_cases c : row a (π i) = true
    · rw [if_pos c, if_pos c, ← yc_ren hp hpp hJ hs (row := yc_nw nr J row a (π i))]
      refine yc_cg fun b hb j hj => ?_
      unfold yc_nw
      rw [hJ i j hi hj]
      have : Nat.beq (π j) (π i) = Nat.beq j i := by
        rw [Bool.eq_iff_iff, Nat.beq_eq, Nat.beq_eq]
        exact ⟨fun e => by rw [← hpp j, e, hpp], fun e => by rw [e]⟩
      rw [this]
    · rw [if_neg c, if_neg c]
end YCNT
theorem yc_sum_up {f : Nat → Nat} {i v : Nat} : ∀ {n : Nat}, i < n → yc_sum (fun j => if j = i then v else f j) n + f i = yc_sum f n + v
  | n + 1, h => by
    show yc_sum (fun j => if j = i then v else f j) n + (if n = i then v else f n) + f i = yc_sum f n + f n + v
    by_cases e : n = i
    · subst e
      rw [if_pos rfl, yc_sum_cg (f := fun j => if j = n then v else f j) (g := f) fun j hj => if_neg (by omega)]
      omega
    · have := yc_sum_up (f := f) (v := v) (show i < n by omega)
      rw [if_neg e]
      omega
def yc_tr (i k j : Nat) : Nat := if j = i then k else if j = k then i else j
theorem yc_tr_tr {i k j : Nat} : yc_tr i k (yc_tr i k j) = j := by
  unfold yc_tr
  (repeat' split) <;> omega
theorem yc_tr_lt {i k j n : Nat} (hi : i < n) (hk : k < n) (hj : j < n) : yc_tr i k j < n := by
  unfold yc_tr
  (repeat' split) <;> omega
theorem yc_sum_tr {f : Nat → Nat} {i k n : Nat} (hi : i < n) (hk : k < n) : yc_sum (fun j => f (yc_tr i k j)) n = yc_sum f n := by
  by_cases e : i = k
  · subst e
    refine yc_sum_cg fun j _ => ?_
    have : yc_tr i i j = j := by unfold yc_tr; (repeat' split) <;> omega
    rw [this]
  · have h1 := yc_sum_up (f := f) (v := f k) hi
    have h2 := yc_sum_up (f := fun j => if j = i then f k else f j) (v := f i) hk
    have e2 : (if k = i then f k else f k) = f k := by split <;> rfl
    have h3 : yc_sum (fun j => f (yc_tr i k j)) n = yc_sum (fun j => if j = k then f i else if j = i then f k else f j) n := yc_sum_cg fun j _ => by
      unfold yc_tr
      by_cases a : j = i
      · rw [if_pos a, if_neg (show ¬ j = k by omega), if_pos a]
      · by_cases b : j = k
        · rw [if_neg a, if_pos b, if_pos b]
        · rw [if_neg a, if_neg b, if_neg b, if_neg a]
    rw [h3]
    have h2 : yc_sum (fun j => if j = k then f i else if j = i then f k else f j) n + (if k = i then f k else f k) = yc_sum (fun j => if j = i then f k else f j) n + f i := h2
    rw [e2] at h2
    omega
/-- twins: the same lines but to each other -/
def yc_tw (J : Nat → Nat → Bool) (i k : Nat) : Prop := ∀ x, x < 24 → x ≠ i → x ≠ k → J i x = J k x
theorem yc_tw_J {J : Nat → Nat → Bool} (hJ : ∀ i j, J i j = J j i) (hx : ∀ i, J i i = false) {i k : Nat} (h : yc_tw J i k) : ∀ x y, x < 24 → y < 24 → J (yc_tr i k x) (yc_tr i k y) = J x y := by
  intro x y hx0 hy0
  unfold yc_tr
  by_cases a : x = i
  · rw [if_pos a]
    by_cases b : y = i
    · rw [if_pos b, a, b, hx, hx]
    · rw [if_neg b]
      by_cases c : y = k
      · rw [if_pos c, a, c, hJ]
      · rw [if_neg c, a]; exact (h y hy0 b c).symm
  · rw [if_neg a]
    by_cases a2 : x = k
    · rw [if_pos a2]
      by_cases b : y = i
      · rw [if_pos b, a2, b, hJ]
      · rw [if_neg b]
        by_cases c : y = k
        · rw [if_pos c, a2, c, hx, hx]
        · rw [if_neg c, a2]; exact h y hy0 b c
    · rw [if_neg a2]
      by_cases b : y = i
      · rw [if_pos b, b, hJ x k, hJ x i]; exact (h x hx0 a a2).symm
      · rw [if_neg b]
        by_cases c : y = k
        · rw [if_pos c, c, hJ x i, hJ x k]; exact h x hx0 a a2
        · rw [if_neg c]
theorem yc_twin {nr J row : Nat → Nat → Bool} (hJ : ∀ i j, J i j = J j i) (hx : ∀ i, J i i = false) {i k a : Nat} (hi : i < 24) (hk : k < 24) (h : yc_tw J i k) {ns : List Nat} (hr : ∀ b ∈ ns, row b i = row b k) : yc nr J ns (yc_nw nr J row a k) = yc nr J ns (yc_nw nr J row a i) := by
  rw [← yc_ren (π := yc_tr i k) (fun j hj => yc_tr_lt hi hk hj) (fun j => yc_tr_tr) (yc_tw_J hJ hx h) (fun f => yc_sum_tr hi hk) (row := yc_nw nr J row a k)]
  refine yc_cg fun b hb j hj => ?_
  have e1 : row b (yc_tr i k j) = row b j := by
    unfold yc_tr
    by_cases c : j = i
    · rw [if_pos c, c, hr b hb]
    · rw [if_neg c]
      by_cases d : j = k
      · rw [if_pos d, d, hr b hb]
      · rw [if_neg d]
  have e2 : Nat.beq (yc_tr i k j) k = Nat.beq j i := by
    rw [Bool.eq_iff_iff, Nat.beq_eq, Nat.beq_eq]
    unfold yc_tr
    (repeat' split) <;> omega
  have e3 : J k (yc_tr i k j) = J i j := by
    have := yc_tw_J hJ hx h i j hi hj
    rw [← this]
    unfold yc_tr
    rw [if_pos rfl]
  unfold yc_nw
  rw [e1, e2, e3]
end
section
/-! Constructors of objects of a law's class: run as if no typed cell were there; what they make gets its types at the end. -/
theorem zb_cell_kept {OB : Nat → Nat} {D : va_G} {DA : Nat → ClassId} {cl : List vw_C} {T : zTp} {H H1 : Heap} {a : Nat} {ty : zTy} (h : z_cell OB D DA cl T H a ty) (e : H1[a]? = H[a]?) : z_cell OB D DA cl T H1 a ty := by
  match ty, h with
  | .inl o, ⟨r, q1, q2, V, q3, q4⟩ => exact ⟨r, q1, q2, V, q3.kept e, q4⟩
  | .inr o, ⟨n, f, z1, z2⟩ => exact ⟨n, f, by rw [e]; exact z1, z2⟩
def zc_seg (o q : Nat × (Nat × Nat) × List ((Nat × Nat) × zV)) : Bool := Nat.beq o.1 q.1 && (Nat.ble q.2.1.1 o.2.1.1 && Nat.ble o.2.1.2 q.2.1.2) && q.2.2.all (fun g => o.2.2.any (fun h => Nat.ble h.1.1 g.1.1 && Nat.ble g.1.2 h.1.2 && (match h.2, g.2 with
  | .inl r, .inl w => z_ile w.1 r.1 && z_ile r.2 w.2
  | .inr (.inr 0), .inr (.inr 0) => true
  | _, _ => false)))
def zc_map (f : List (Nat × Nat)) (u : Nat) : Nat := match f.find? (fun q => Nat.beq q.1 u) with
  | some q => q.2
  | none => u
def zc_okf (TY : List zTy) (f : List (Nat × Nat)) : Bool := (List.range TY.length).all (fun u => match TY[u]? with
  | some (.inr o) => (match TY[zc_map f u]? with
    | some (.inr q) => zc_seg o q
    | _ => false)
  | _ => true)
/-- what a field of the new object holds -/
def zc_fv (st : zS) (ci k : Nat) : Option zV := match z_ffind st 0 ci k with
  | some w => z_get (z_V st) w
  | none => none
def zc_fld (TY : List zTy) (f : List (Nat × Nat)) (st : zS) (ci k : Nat) (c : zV) : Bool := match zc_fv st ci k with
  | some (.inl r) => (match c with
    | .inl q => z_ile q.1 r.1 && z_ile r.2 q.2
    | _ => false)
  | some (.inr (.inl u)) => (match TY[u]? with
    | some (.inr _) => (match c with
      | .inr (.inl t) => Nat.beq t (zc_map f u)
      | _ => false)
    | _ => false)
  | _ => false
def zc_a0 (TY : List zTy) (st : zS) (ci k : Nat) : Bool := match zc_fv st ci k with
  | some (.inr (.inl u)) => (match TY[u]? with
    | some (.inr q) => Nat.beq q.1 0
    | _ => false)
  | _ => false
def zc_zr (TY : List zTy) (st : zS) (ci k : Nat) : Bool := match zc_fv st ci k with
  | some (.inr (.inl u)) => (match TY[u]? with
    | some (.inr q) => Nat.beq q.1 0 && Nat.ble 200 q.2.1.1 && q.2.2.any (fun g => Nat.beq g.1.1 0 && Nat.ble 199 g.1.2 && (match g.2 with
      | .inl r => z_ile 0 r.1 && z_ile r.2 0
      | _ => false))
    | _ => false)
  | _ => false
def zc_c0 (st : zS) (ci k : Nat) : Bool := match zc_fv st ci k with
  | some (.inl r) => z_ile 0 r.1 && z_ile r.2 0
  | _ => false
def zc_J (TY : List zTy) (st : zS) (ci : Nat) : Bool := (!(Nat.beq ci 12) || (zc_c0 st 12 13 && (zc_a0 TY st 12 20 && zc_a0 TY st 12 22 && (zc_a0 TY st 12 23 && zc_a0 TY st 12 24)))) && (!(Nat.beq ci 4) || (zc_zr TY st 4 0 && zc_zr TY st 4 1))
def zc_fin (TY : List zTy) (cl : List vw_C) (f : List (Nat × Nat)) (ci tau : Nat) (mk : Nat × Nat) (st : zS) : Bool :=
  ((z_S st).isEmpty && (Nat.ble (z_C st).1 mk.1 && Nat.ble (z_C st).2 mk.2)) && ((z_X st).any (fun q => Nat.beq q.1 0 && Nat.beq q.2 ci) && zc_J TY st ci) && (match TY[tau]?, cl[ci]? with
    | some (.inl o), some r => Nat.beq o.1 ci && Nat.beq o.2.length r.2.2 && (List.range o.2.length).all (fun k => match o.2[k]? with
      | some c => zc_fld TY f st ci k c
      | none => false)
    | _, _ => false)
section ZCONS
variable {OB : Nat → Nat} {D : va_G} {DA : Nat → ClassId} {cl : List vw_C} {FT : Nat → Nat → FieldType} {TY : List zTy} {PHI : List (List Nat)} {sz : Nat} {raw : Option Nat} {pu : Bool} {T0 T : zTp} {H0 H : Heap} {env0 env : List Value} {nL : Nat} {st : zS} {locs : List Loc} {ls : Array Slot} {stk : List Value}
/-- the types at the end -/
def zc_T (TY : List zTy) (f : List (Nat × Nat)) (a tau : Nat) (T0 T : zTp) : zTp := fun q => if q = a then some tau else match T0 q with
  | some t => some t
  | none => (match T q with
    | some u => (match TY[u]? with
      | some (.inr _) => some (zc_map f u)
      | _ => none)
    | none => none)
theorem zc_T_at {f : List (Nat × Nat)} {a tau : Nat} : zc_T TY f a tau T0 T a = some tau := by unfold zc_T; rw [if_pos rfl]
theorem zc_T_old {f : List (Nat × Nat)} {a tau q t : Nat} (h : q ≠ a) (ht : T0 q = some t) : zc_T TY f a tau T0 T q = some t := by
  unfold zc_T; rw [if_neg h, ht]
theorem zc_T_new {f : List (Nat × Nat)} {a tau q u : Nat} {o : Nat × (Nat × Nat) × List ((Nat × Nat) × zV)} (h : q ≠ a) (h0 : T0 q = none) (ht : T q = some u) (hu : TY[u]? = some (.inr o)) : zc_T TY f a tau T0 T q = some (zc_map f u) := by
  unfold zc_T; rw [if_neg h, h0, ht]
  show (match TY[u]? with
      | some (.inr _) => some (zc_map f u)
      | _ => none) = _
  rw [hu]
theorem zc_T_inv {f : List (Nat × Nat)} {a tau q t : Nat} (h : zc_T TY f a tau T0 T q = some t) : (q = a ∧ t = tau) ∨ (q ≠ a ∧ T0 q = some t) ∨ (q ≠ a ∧ T0 q = none ∧ ∃ u o, T q = some u ∧ TY[u]? = some (.inr o) ∧ t = zc_map f u) := by
  unfold zc_T at h
  by_cases e : q = a
  · rw [if_pos e] at h
    exact Or.inl ⟨e, (Option.some.inj h).symm⟩
  · rw [if_neg e] at h
    split at h
    · rename_i t0 ht0
      exact Or.inr (Or.inl ⟨e, ht0.trans h⟩)
    · rename_i ht0
      split at h
      · rename_i u hu
        split at h
        · rename_i o ho
          exact Or.inr (Or.inr ⟨e, ht0, u, o, hu, ho, (Option.some.inj h).symm⟩)
        · cases h
      · cases h
theorem zc_fv_ok {ci k : Nat} {c : zV} (h : zc_fv st ci k = some c) (hs : z_sat OB D DA cl TY PHI sz raw pu T0 H0 env0 nL st T H locs env ls stk) : ∃ (a : Nat) (v : Value), env[0]? = some (.ref a) ∧ z_sl H a (D.2 ci k) v ∧ z_v OB T c v := by
  unfold zc_fv at h
  split at h
  · rename_i w hw
    obtain ⟨a, v, e1, e2, e3⟩ := z_ffind_ok hw hs
    obtain ⟨v2, e4, e5⟩ := z_get_ok hs.2.2.2.2.1 h
    rw [e2] at e4
    cases e4
    exact ⟨a, v, e1, e3, e5⟩
  · cases h
theorem zc_fld_ok {f : List (Nat × Nat)} {ci k : Nat} {c : zV} (h : zc_fld TY f st ci k c = true) : (∃ r q, zc_fv st ci k = some (.inl r) ∧ c = .inl q ∧ z_ile q.1 r.1 = true ∧ z_ile r.2 q.2 = true) ∨ (∃ u o, zc_fv st ci k = some (.inr (.inl u)) ∧ TY[u]? = some (.inr o) ∧ c = .inr (.inl (zc_map f u))) := by
  unfold zc_fld at h
  split at h
  · rename_i r hr
    split at h
    · rename_i q
      rw [Bool.and_eq_true] at h
      exact Or.inl ⟨r, q, hr, rfl, h.1, h.2⟩
    · cases h
  · rename_i u hu
    split at h
    · rename_i o ho
      split at h
      · rename_i t
        have et : t = zc_map f u := z_beq h
        subst et
        exact Or.inr ⟨u, o, hu, ho, rfl⟩
      · cases h
    · cases h
  · cases h
/-- the run's cells: new ones -/
theorem zc_new {a q u : Nat} (hs : z_sat OB D DA cl TY PHI sz (some a) false (fun _ => none) H0 env0 nL st T H locs env ls stk) (hTa : T a = none) (h : T q = some u) : H0.size ≤ q ∧ q ≠ a := by
  have hm := hs.2.2.2.2.2.2.2.2.2.2.2.2.1
  refine ⟨?_, fun e => by rw [e, hTa] at h; cases h⟩
  rcases Nat.lt_or_ge q H0.size with lt | ge
  · have := (hm q lt rfl (fun e => by cases e; rw [hTa] at h; cases h)).1
    rw [this] at h
    cases h
  · exact ge
theorem zc_arr {f : List (Nat × Nat)} {q u : Nat} {o : Nat × (Nat × Nat) × List ((Nat × Nat) × zV)} {T2 : zTp} (hf : zc_okf TY f = true) (hu : TY[u]? = some (.inr o)) (hc : z_cell OB D DA cl T H q (.inr o)) : ∃ o2, TY[zc_map f u]? = some (.inr o2) ∧ z_cell OB D DA cl T2 H q (.inr o2) := by
  have h1 := List.all_eq_true.mp hf u (List.mem_range.mpr (List.getElem?_eq_some_iff.mp hu).1)
  rw [hu] at h1
  simp only at h1
  split at h1
  · rename_i o2 ho2
    refine ⟨o2, ho2, ?_⟩
    unfold zc_seg at h1
    simp only [Bool.and_eq_true] at h1
    obtain ⟨⟨e1, e2, e3⟩, e4⟩ := h1
    obtain ⟨n, g, z1, z2, z3, z4, z5⟩ := hc
    have l2 := Nat.le_of_ble_eq_true e2
    have l3 := Nat.le_of_ble_eq_true e3
    refine ⟨n, g, by rw [← z_beq e1]; exact z1, by omega, by omega, z4, fun s hs j j1 j2 j3 => ?_⟩
    obtain ⟨s2, k1, k2⟩ := List.any_eq_true.mp (List.all_eq_true.mp e4 s hs)
    simp only [Bool.and_eq_true] at k2
    obtain ⟨⟨k3, k4⟩, k5⟩ := k2
    have m3 := Nat.le_of_ble_eq_true k3
    have m4 := Nat.le_of_ble_eq_true k4
    have hv := z5 s2 k1 j j1 (by omega) (by omega)
    split at k5
    · rename_i r w hr hw
      rw [hr] at hv
      rw [hw]
      rw [Bool.and_eq_true] at k5
      obtain ⟨x, ex, hx⟩ := hv
      exact ⟨x, ex, z_in_le (z_ile_ok k5.1) (z_ile_ok k5.2) hx⟩
    · rename_i hr hw
      rw [hr] at hv
      rw [hw]
      exact hv
    · cases k5
  · cases h1
/-- the heap at the end is typed -/
theorem zc_ht {f : List (Nat × Nat)} {a tau ci : Nat} {T1 : zTp} {mk : Nat × Nat} (hf : zc_okf TY f = true) (h0 : z_ht OB D DA cl TY T1 H0) (hTa1 : T1 a = none) (hs : z_sat OB D DA cl TY PHI sz (some a) false (fun _ => none) H0 env0 nL st T H locs env ls stk) (he : env[0]? = some (.ref a)) (hfin : zc_fin TY cl f ci tau mk st = true) : z_ht OB D DA cl TY (zc_T TY f a tau T1 T) H := by
  unfold zc_fin at hfin
  simp only [Bool.and_eq_true] at hfin
  obtain ⟨⟨-, hX, hJ⟩, hF⟩ := hfin
  obtain ⟨q0, hq0, hq1⟩ := List.any_eq_true.mp hX
  rw [Bool.and_eq_true] at hq1
  obtain ⟨a2, x1, x2, x3, r, V, x4, x5⟩ := z_fx_in hs.2.2.2.2.2.2.2.2.1 q0 hq0
  rw [z_beq hq1.1, he] at x1
  have ea : a = a2 := by cases x1; rfl
  subst ea
  have eci : q0.2 = ci := z_beq hq1.2
  rw [eci] at x4 x5
  have hm := hs.2.2.2.2.2.2.2.2.2
  have old : ∀ q t, T1 q = some t → q ≠ a ∧ H[q]? = H0[q]? ∧ q < H0.size := by
    intro q t ht
    obtain ⟨ty, y1, y2⟩ := h0.1 q t ht
    have lt := z_cell_lt y2
    have hne : q ≠ a := fun e => by rw [e, hTa1] at ht; cases ht
    exact ⟨hne, (hm.2.2.2.1 q lt rfl (fun e => by cases e; exact hne rfl)).2, lt⟩
  have new : ∀ q u, T q = some u → H0.size ≤ q ∧ q ≠ a ∧ T1 q = none := by
    intro q u hu
    obtain ⟨n1, n2⟩ := zc_new hs x2 hu
    refine ⟨n1, n2, ?_⟩
    cases hT : T1 q with
    | none => rfl
    | some t => have := (old q t hT).2.2; omega
  have fv : ∀ {k : Nat} {c : zV}, zc_fv st ci k = some c → ∃ v, z_sl H a (D.2 ci k) v ∧ z_v OB T c v := by
    intro k c hc
    obtain ⟨a3, v, e1, e2, e3⟩ := zc_fv_ok hc hs
    rw [he] at e1
    have : a = a3 := by cases e1; rfl
    subst this
    exact ⟨v, e2, e3⟩
  split at hF
  · rename_i o r2 ho hr2
    rw [x4] at hr2
    cases hr2
    obtain ⟨oc, fl⟩ := o
    rw [Bool.and_eq_true, Bool.and_eq_true] at hF
    obtain ⟨⟨f1, f2⟩, f3⟩ := hF
    have eoc : oc = ci := z_beq f1
    subst eoc
    have hcell : z_cell OB D DA cl (zc_T TY f a tau T1 T) H a (.inl (oc, fl)) := by
      refine ⟨r, x4, z_beq f2, V, x5, fun k c hk => ?_⟩
      have hk : fl[k]? = some c := hk
      have hlt : k < fl.length := (List.getElem?_eq_some_iff.mp hk).1
      have f4 := List.all_eq_true.mp f3 k (List.mem_range.mpr hlt)
      have f4 : (match fl[k]? with
        | some c => zc_fld TY f st oc k c
        | none => false) = true := f4
      rw [hk] at f4
      have f4 : zc_fld TY f st oc k c = true := f4
      have hV : ∀ v, z_sl H a (D.2 oc k) v → V k = v := by
        intro v hv
        obtain ⟨cell, c1, c2, c3, c4⟩ := x5
        exact zj_fun ⟨cell, c1, c3, c4 k (by rw [← z_beq f2]; exact hlt)⟩ hv
      rcases zc_fld_ok f4 with ⟨rr, qq, hrr, rfl, q1, q2⟩ | ⟨u, o2, hu, ho2, rfl⟩
      · obtain ⟨v, v1, v2⟩ := fv hrr
        rw [hV v v1]
        obtain ⟨x, ex, hx⟩ := v2
        exact ⟨x, ex, z_in_le (z_ile_ok q1) (z_ile_ok q2) hx⟩
      · obtain ⟨v, v1, v2⟩ := fv hu
        rw [hV v v1]
        obtain ⟨b, eb, hb⟩ := v2
        obtain ⟨-, n2, n3⟩ := new b u hb
        exact ⟨b, eb, zc_T_new n2 n3 hb ho2⟩
    have sub : ∀ b t, T1 b = some t → zc_T TY f a tau T1 T b = some t := fun b t hb => zc_T_old (old b t hb).1 hb
    have base : ∀ q t, zc_T TY f a tau T1 T q = some t → ∃ ty, TY[t]? = some ty ∧ z_cell OB D DA cl (zc_T TY f a tau T1 T) H q ty := by
      intro q t hq
      rcases zc_T_inv hq with ⟨rfl, rfl⟩ | ⟨e, h1⟩ | ⟨e, h1, u, o2, h2, h3, rfl⟩
      · exact ⟨_, ho, hcell⟩
      · obtain ⟨ty, y1, y2⟩ := h0.1 q t h1
        refine ⟨ty, y1, z_cell_mono (T := T1) (fun b t hb => sub b t hb) ?_⟩
        exact zb_cell_kept y2 (old q t h1).2.1
      · obtain ⟨ty, y1, y2⟩ := hm.1.1 q u h2
        rw [h3] at y1
        cases y1
        obtain ⟨o4, k1, k2⟩ := zc_arr (T2 := zc_T TY f a tau T1 T) hf h3 y2
        exact ⟨_, k1, k2⟩
    have cls : ∀ q t c fl2, zc_T TY f a tau T1 T q = some t → TY[t]? = some (.inl (c, fl2)) → (q = a ∧ c = oc) ∨ (q ≠ a ∧ T1 q = some t) := by
      intro q t c fl2 hq hty
      rcases zc_T_inv hq with ⟨rfl, rfl⟩ | ⟨e, h1⟩ | ⟨e, h1, u, o2, h2, h3, rfl⟩
      · rw [ho] at hty
        cases hty
        exact Or.inl ⟨rfl, rfl⟩
      · exact Or.inr ⟨e, h1⟩
      · obtain ⟨ty, y1, y2⟩ := hm.1.1 q u h2
        rw [h3] at y1
        cases y1
        obtain ⟨o4, k1, k2⟩ := zc_arr (T2 := T) hf h3 y2
        rw [hty] at k1
        cases k1
    have a0 : ∀ {k : Nat}, zc_a0 TY st oc k = true → ∃ (b : Nat) (g : Int → Int), z_sl H a (D.2 oc k) (.ref b) ∧ zj_c (zc_T TY f a tau T1 T) DA H b g ∧ H0.size ≤ b := by
      intro k hk
      unfold zc_a0 at hk
      split at hk
      · rename_i u hu
        obtain ⟨v, v1, b, rfl, v2⟩ := fv hu
        split at hk
        · rename_i o2 ho2
          obtain ⟨n1, n2, n3⟩ := new b u v2
          obtain ⟨ty, y1, y2⟩ := hm.1.1 b u v2
          rw [ho2] at y1
          cases y1
          obtain ⟨n, g, z1, -⟩ := y2
          rw [z_beq hk] at z1
          exact ⟨b, _, v1, ⟨by rw [zc_T_new n2 n3 v2 ho2]; rfl, n, g, z1, rfl⟩, n1⟩
        · cases hk
      · cases hk
    have zr : ∀ {k : Nat}, zc_zr TY st oc k = true → ∃ (b : Nat) (g : Int → Int), z_sl H a (D.2 oc k) (.ref b) ∧ zj_c (zc_T TY f a tau T1 T) DA H b g ∧ H0.size ≤ b ∧ ∀ i : Int, 0 ≤ i → i < 200 → g i = 0 := by
      intro k hk
      unfold zc_zr at hk
      split at hk
      · rename_i u hu
        obtain ⟨v, v1, b, rfl, v2⟩ := fv hu
        split at hk
        · rename_i o2 ho2
          simp only [Bool.and_eq_true] at hk
          obtain ⟨⟨k1, k2⟩, k3⟩ := hk
          obtain ⟨n1, n2, n3⟩ := new b u v2
          obtain ⟨ty, y1, y2⟩ := hm.1.1 b u v2
          rw [ho2] at y1
          cases y1
          obtain ⟨n, g, z1, z2, z3, z4, z5⟩ := y2
          rw [z_beq k1] at z1
          have l2 := Nat.le_of_ble_eq_true k2
          obtain ⟨s, s1, s2⟩ := List.any_eq_true.mp k3
          simp only [Bool.and_eq_true] at s2
          obtain ⟨⟨s3, s4⟩, s5⟩ := s2
          have l4 := Nat.le_of_ble_eq_true s4
          refine ⟨b, _, v1, ⟨by rw [zc_T_new n2 n3 v2 ho2]; rfl, n, g, z1, rfl⟩, n1, fun i i1 i2 => ?_⟩
          have hv := z5 s s1 i.toNat (by omega) (by rw [z_beq s3]; exact Nat.zero_le _) (by omega)
          split at s5
          · rename_i rr hrr
            rw [hrr] at hv
            rw [Bool.and_eq_true] at s5
            obtain ⟨x, ex, hx1, hx2⟩ := hv
            have q1 := z_ile_ok s5.1
            have q2 := z_ile_ok s5.2
            show (match g i.toNat with
              | .int x => x.toInt
              | _ => 0) = 0
            rw [ex]
            show x.toInt = 0
            omega
          · cases s5
        · cases hk
      · cases hk
    unfold zc_J at hJ
    simp only [Bool.and_eq_true] at hJ
    have hobj : zj_obj (zc_T TY f a tau T1 T) D DA H a oc := by
      refine ⟨fun e => ?_, fun e => ?_⟩
      · subst e
        have h1 := hJ.1
        have hb : Nat.beq 12 12 = true := rfl
        simp only [hb, Bool.not_true, Bool.false_or, Bool.and_eq_true] at h1
        obtain ⟨c0, ⟨j1, j2⟩, j3, j4⟩ := h1
        obtain ⟨b1, g1, s1, w1, -⟩ := a0 j1
        obtain ⟨b2, g2, s2, w2, -⟩ := a0 j2
        obtain ⟨b3, g3, s3, w3, -⟩ := a0 j3
        obtain ⟨b4, g4, s4, w4, -⟩ := a0 j4
        unfold zc_c0 at c0
        split at c0
        · rename_i rr hrr
          obtain ⟨v, v1, x, rfl, hx1, hx2⟩ := fv hrr
          rw [Bool.and_eq_true] at c0
          have q1 := z_ile_ok c0.1
          have q2 := z_ile_ok c0.2
          have hx : x.toInt = 0 := by omega
          exact ⟨x, b1, b2, b3, b4, g1, g2, g3, g4, v1, ⟨s1, w1⟩, ⟨s2, w2⟩, ⟨s3, w3⟩, ⟨s4, w4⟩, fun _ => 0, 0, Int.le_refl _, by omega, fun k k1 k2 => absurd k1 (by omega), by omega, by omega, fun q q1 q2 => absurd q1 (by omega)⟩
        · cases c0
      · subst e
        have h1 := hJ.2
        have hb : Nat.beq 4 4 = true := rfl
        simp only [hb, Bool.not_true, Bool.false_or, Bool.and_eq_true] at h1
        obtain ⟨b1, g1, s1, w1, -, e1⟩ := zr h1.1
        obtain ⟨b2, g2, s2, w2, -, e2⟩ := zr h1.2
        refine ⟨b1, b2, g1, g2, ⟨s1, w1⟩, ⟨s2, w2⟩, fun k k1 k2 => ?_⟩
        rw [e1 k k1 k2, e2 k k1 k2]
        exact ⟨by omega, by omega, by omega, by omega, fun _ => by omega⟩
    have fresh : ∀ k ∈ zj_refs oc, ∀ b : Nat, z_sl H a (D.2 oc k) (.ref b) → H0.size ≤ b := by
      intro k hk b hb
      by_cases e : oc = 12
      · subst e
        have h1 := hJ.1
        have hb2 : Nat.beq 12 12 = true := rfl
        simp only [hb2, Bool.not_true, Bool.false_or, Bool.and_eq_true] at h1
        obtain ⟨c0, ⟨j1, j2⟩, j3, j4⟩ := h1
        have hk : k ∈ [20, 22, 23, 24] := hk
        simp only [List.mem_cons, List.not_mem_nil, or_false] at hk
        have fin : ∀ {k2 : Nat}, zc_a0 TY st 12 k2 = true → z_sl H a (D.2 12 k2) (.ref b) → H0.size ≤ b := by
          intro k2 j hb3
          obtain ⟨b1, g1, s1, w1, l1⟩ := a0 j
          have := zj_fun s1 hb3
          cases this
          exact l1
        rcases hk with rfl | rfl | rfl | rfl
        · exact fin j1 hb
        · exact fin j2 hb
        · exact fin j3 hb
        · exact fin j4 hb
      · by_cases e4 : oc = 4
        · subst e4
          have h1 := hJ.2
          have hb2 : Nat.beq 4 4 = true := rfl
          simp only [hb2, Bool.not_true, Bool.false_or, Bool.and_eq_true] at h1
          have hk : k ∈ [0, 1] := hk
          simp only [List.mem_cons, List.not_mem_nil, or_false] at hk
          have fin : ∀ {k2 : Nat}, zc_zr TY st 4 k2 = true → z_sl H a (D.2 4 k2) (.ref b) → H0.size ≤ b := by
            intro k2 j hb3
            obtain ⟨b1, g1, s1, w1, l1, -⟩ := zr j
            have := zj_fun s1 hb3
            cases this
            exact l1
          rcases hk with rfl | rfl
          · exact fin h1.1 hb
          · exact fin h1.2 hb
        · exfalso
          have n1 : Nat.beq oc 12 = false := by
            cases hb : Nat.beq oc 12 with
            | false => rfl
            | true => exact absurd (Nat.eq_of_beq_eq_true hb) e
          have n2 : Nat.beq oc 4 = false := by
            cases hb : Nat.beq oc 4 with
            | false => rfl
            | true => exact absurd (Nat.eq_of_beq_eq_true hb) e4
          unfold zj_refs at hk
          rw [n1, n2] at hk
          exact absurd hk List.not_mem_nil
    have kept : ∀ q t c fl2, T1 q = some t → TY[t]? = some (.inl (c, fl2)) → ∀ k (b : Nat), k ∈ zj_refs c → z_sl H q (D.2 c k) (.ref b) → b < H0.size := by
      intro q t c fl2 hq hty k b hk hb
      obtain ⟨b0, s0⟩ := zj_has (h0.2.1 q t c fl2 hq hty) hk
      have s1 : z_sl H q (D.2 c k) (.ref b0) := by
        obtain ⟨cell, c1, c2⟩ := s0
        exact ⟨cell, by rw [(old q t hq).2.1]; exact c1, c2⟩
      have := zj_fun s1 hb
      cases this
      have ob := h0.2.1 q t c fl2 hq hty
      have some1 : (T1 b).isSome = true := by
        by_cases e : c = 12
        · subst e
          obtain ⟨cs, b1, b2, b3, b4, g1, g2, g3, g4, -, ⟨u1, w1⟩, ⟨u2, w2⟩, ⟨u3, w3⟩, ⟨u4, w4⟩, -⟩ := ob.1 rfl
          have hk : k ∈ [20, 22, 23, 24] := hk
          simp only [List.mem_cons, List.not_mem_nil, or_false] at hk
          rcases hk with rfl | rfl | rfl | rfl
          · have := zj_fun u1 s0; cases this; exact w1.1
          · have := zj_fun u2 s0; cases this; exact w2.1
          · have := zj_fun u3 s0; cases this; exact w3.1
          · have := zj_fun u4 s0; cases this; exact w4.1
        · by_cases e4 : c = 4
          · subst e4
            obtain ⟨b1, b2, g1, g2, ⟨u1, w1⟩, ⟨u2, w2⟩, -⟩ := ob.2 rfl
            have hk : k ∈ [0, 1] := hk
            simp only [List.mem_cons, List.not_mem_nil, or_false] at hk
            rcases hk with rfl | rfl
            · have := zj_fun u1 s0; cases this; exact w1.1
            · have := zj_fun u2 s0; cases this; exact w2.1
          · exfalso
            have n1 : Nat.beq c 12 = false := by
              cases hb : Nat.beq c 12 with
              | false => rfl
              | true => exact absurd (Nat.eq_of_beq_eq_true hb) e
            have n2 : Nat.beq c 4 = false := by
              cases hb : Nat.beq c 4 with
              | false => rfl
              | true => exact absurd (Nat.eq_of_beq_eq_true hb) e4
            unfold zj_refs at hk
            rw [n1, n2] at hk
            exact absurd hk List.not_mem_nil
      cases hT : T1 b with
      | none => rw [hT] at some1; cases some1
      | some u => exact (old b u hT).2.2
    refine ⟨base, fun q t c fl2 hq hty => ?_, fun q q' t t' c fl2 fl2' h1 h2 h3 h4 k hk b h5 h6 => ?_⟩
    · rcases cls q t c fl2 hq hty with ⟨rfl, rfl⟩ | ⟨e, h1⟩
      · exact hobj
      · refine zj_kept (h0.2.1 q t c fl2 h1 hty) (fun b hb => ?_) (fun k hk w hw => ?_) (fun k hk b hb hb2 => ?_)
        · cases hT : T1 b with
          | none => rw [hT] at hb; cases hb
          | some u => rw [sub b u hT]; rfl
        · obtain ⟨cell, c1, c2⟩ := hw
          exact ⟨cell, by rw [(old q t h1).2.1]; exact c1, c2⟩
        · cases hT : T1 b with
          | none => rw [hT] at hb2; cases hb2
          | some u => exact (old b u hT).2.1
    · rcases cls q t c fl2 h1 h2 with ⟨e1, e2⟩ | ⟨e1, g1⟩
      · rcases cls q' t' c fl2' h3 h4 with ⟨e3, e4⟩ | ⟨e3, g3⟩
        · rw [e1, e3]
        · subst e2
          rw [e1] at h5
          have l1 := fresh k hk b h5
          have l2 := kept q' t' _ fl2' g3 h4 k b hk h6
          omega
      · rcases cls q' t' c fl2' h3 h4 with ⟨e3, e4⟩ | ⟨e3, g3⟩
        · subst e4
          rw [e3] at h6
          have l1 := fresh k hk b h6
          have l2 := kept q t _ fl2 g1 h2 k b hk h5
          omega
        · have old5 : z_sl H0 q (D.2 c k) (.ref b) := by
            obtain ⟨cell, c1, c2⟩ := h5
            exact ⟨cell, by rw [← (old q t g1).2.1]; exact c1, c2⟩
          have old6 : z_sl H0 q' (D.2 c k) (.ref b) := by
            obtain ⟨cell, c1, c2⟩ := h6
            exact ⟨cell, by rw [← (old q' t' g3).2.1]; exact c1, c2⟩
          exact h0.2.2 q q' t t' c fl2 fl2' g1 h2 g3 h4 k hk b old5 old6
  · cases hF
end ZCONS
end
section
/-! A constructor's contract. -/
/-- places that are known at the end -/
def zc_nw (cl : List vw_C) (ci : Nat) (st : zS) (nw : List (zLoc × zV)) : Bool := nw.all fun q => (Nat.beq q.1.1 0 && Nat.beq q.1.2.1 ci) && ((match cl[ci]? with
  | some r => Nat.blt q.1.2.2.1 r.2.2
  | none => false) && (match q.1.2.2.2, z_ffind st 0 ci q.1.2.2.1, q.2 with
  | some e, some w, .inl r => (z_E st).any (fun t => Nat.beq t.1 w && (match z_get (z_V st) t.2.1, z_get (z_V st) t.2.2 with
    | some (.inl i), some (.inl v) => (z_ile (e : Nat) i.1 && z_ile i.2 (e : Nat)) && (z_ile r.1 v.1 && z_ile v.2 r.2)
    | _, _ => false))
  | _, _, _ => false))
theorem zc_nw_ok {OB : Nat → Nat} {D : va_G} {DA : Nat → ClassId} {cl : List vw_C} {TY : List zTy} {PHI : List (List Nat)} {sz : Nat} {raw : Option Nat} {pu : Bool} {T0 T : zTp} {H0 H : Heap} {env0 env : List Value} {nL : Nat} {st : zS} {locs : List Loc} {ls : Array Slot} {stk : List Value} {ci a : Nat} {nw : List (zLoc × zV)} (h : zc_nw cl ci st nw = true) (hs : z_sat OB D DA cl TY PHI sz raw pu T0 H0 env0 nL st T H locs env ls stk) (h0 : env[0]? = some (.ref a)) :
    ∀ q ∈ nw, ∃ (x : Int32) (r : zR), (q.1.1 = 0 ∧ z_lv D cl H (some (.ref a)) q.1 (.int x)) ∧ q.2 = .inl r ∧ z_in r x := by
  intro q hq
  have h1 := List.all_eq_true.mp h q hq
  rw [Bool.and_eq_true, Bool.and_eq_true, Bool.and_eq_true] at h1
  obtain ⟨⟨c1, c2⟩, c3, c4⟩ := h1
  split at c3
  · rename_i r0 hr0
    split at c4
    · rename_i e w r he hw hr
      obtain ⟨t, ht, ht2⟩ := List.any_eq_true.mp c4
      rw [Bool.and_eq_true] at ht2
      obtain ⟨d1, d2⟩ := ht2
      split at d2
      · rename_i i v hi hv
        simp only [Bool.and_eq_true] at d2
        obtain ⟨⟨i1, i2⟩, v1, v2⟩ := d2
        obtain ⟨a2, w2, e1, e2, e3⟩ := z_ffind_ok hw hs
        rw [h0] at e1
        cases e1
        obtain ⟨a3, x, w3, f1, f2, f3, f4, f5⟩ := hs.2.2.2.2.2.2.1 t ht
        rw [z_beq d1, e2] at f1
        cases f1
        obtain ⟨xi, g1, xi2, rfl, g2⟩ := z_get_ok hs.2.2.2.2.1 hi
        rw [f2] at g1
        cases g1
        obtain ⟨xv, k1, xv2, rfl, k2⟩ := z_get_ok hs.2.2.2.2.1 hv
        rw [f4] at k1
        cases k1
        have j1 := z_ile_ok i1
        have j2 := z_ile_ok i2
        have j3 := g2.1
        have j4 := g2.2
        have ex : x.toInt.toNat = e := by omega
        rw [ex] at f5
        refine ⟨xv2, r, ⟨z_beq c1, a, r0, rfl, by rw [z_beq c2]; exact hr0, z_blt c3, ?_⟩, hr, z_in_le (z_ile_ok v1) (z_ile_ok v2) k2⟩
        rw [he, z_beq c2]
        exact ⟨a3, e3, f5⟩
      · cases d2
    · cases c4
  · cases c3
def zc_chk (hk : zHk) (TY : List zTy) (PHI : List (List Nat)) (cl : List vw_C) (FT : Nat → Nat → FieldType) (MT : List zM) (SG : List (Nat × zSig)) (RO PHS : List Nat) (mm : zM) (g : zSig) (ce : zCe) (f : List (Nat × Nat)) (ci tau : Nat) (nw : List (zLoc × zV)) : Bool := match z_ent TY cl FT mm.2.2.1 g with
  | some (st0, _) => z_run (z_hst hk (z_stp TY PHI cl FT MT SG RO PHS (z_room g) (g_pur g) mm.2.2.1 ce.1 mm.2.1 (fun st => zc_fin TY cl f ci tau (g_mk g) st && zc_nw cl ci st nw) (fun _ => false))) (z_cut [] (z_n st0) none) ce.2.2 0 st0
  | none => false
abbrev zc_g (k0 : zV) (ci tau : Nat) (nw : List (zLoc × zV)) (mk rm : Nat × Nat) : zSig := ([k0], some ci, [], [([(0, .inr (.inl tau))], none, [], nw)], false, mk, rm, 0)
section ZCONS2
variable {cl : List vw_C} {FT : Nat → Nat → FieldType} {TY : List zTy} {PHI : List (List Nat)} {KXf : (Nat → Nat) → Nat → State → Heap → Prop} {TBL : List Cond} {MT : List zM} {SG : List (Nat × zSig)} {RO PHS : List Nat} {hk : zHk} {mm : zM} {ce : zCe} {f : List (Nat × Nat)} {ci tau : Nat} {k0 : zV} {nw : List (zLoc × zV)} {mk rm : Nat × Nat}
theorem zc_OK (hpl : plainFor mm.1 = true) (hKS : z_KS (Cond.code mm.1 mm.2.1 mm.2.2.1 mm.2.2.2.1 :: TBL) TBL cl FT mm.1.cls MT ce.1) (hin : ∀ j, k_IN ce.1 = some j → mm.1.name = "<init>") (hXp : ∀ OB sz, z_KXp sz (KXf OB sz)) (hPH : ∀ a ∈ PHS, z_phok TY PHI a = true)
    (hok : ∀ g ∈ (k_CA ce.1).filterMap (fun a => SG[a.2]?), ∀ m2, MT[g.1]? = some m2 → z_OK TBL cl FT TY PHI KXf m2.1 m2.2.1 m2.2.2.1 m2.2.2.2.1 g.2) (hH : z_hok TBL cl TY PHI KXf mm (zc_g k0 ci tau nw mk rm) hk) (hret : mm.2.2.2.1 = none) (hf : zc_okf TY f = true) (h0 : zc_chk hk TY PHI cl FT MT SG RO PHS mm (zc_g k0 ci tau nw mk rm) ce f ci tau nw = true) : z_OK TBL cl FT TY PHI KXf mm.1 mm.2.1 mm.2.2.1 mm.2.2.2.1 (zc_g k0 ci tau nw mk rm) := by
  intro l OB D DA sz T
  refine va_MetF (cc := mm.2.1) (maxL := mm.2.2.1) (ret := mm.2.2.2.1) hpl rfl ?_
  intro p e s m args below meth c s₁ B hml hPre
  unfold zc_chk at h0
  split at h0
  · rename_i st0 ws hent
    obtain ⟨vals, e0, hrest⟩ := hPre
    subst e0
    obtain ⟨hl, h1, h2, h3, h4, h5, hsz, hK, hX⟩ := hrest
    obtain ⟨a, r0, V0, a1, a2, a3, a4, a5, a6⟩ := h2 ci rfl
    have hPre2 : z_Pre OB D DA cl FT TY sz (KXf OB sz) (zc_g k0 ci tau nw mk rm) (fun _ => none) vals.toArray s := by
      refine ⟨vals, rfl, hl, fun j c hj hor => ?_, fun ci2 hci2 => ?_, fun q hq => absurd hq List.not_mem_nil, ⟨fun a t ht => absurd ht (by simp), fun a t ci fl ha => absurd ha (by simp), fun a a' t t' ci fl fl' ha => absurd ha (by simp)⟩, fun a t ht => absurd ht (by simp), hsz, hK, hX⟩
      · rcases hor with h | h
        · cases h
        · cases j with
          | zero => exact absurd rfl h
          | succ j =>
            have hj : ([k0] : List zV)[j + 1]? = some c := hj
            simp at hj
      · have e : ci = ci2 := Option.some.inj hci2
        subst e
        exact ⟨a, r0, V0, a1, rfl, a3, a4, a5, a6⟩
    obtain ⟨hcat, hn, env, raw, hraw, hsat, hlen, hvals, hwl, hws⟩ := z_ent_ok (pu := false) (PHI := PHI) hPre2 hent
    have er : raw = some a := (hraw a).mpr ⟨rfl, a1⟩
    subst er
    have hts : ∀ w ∈ (Cond.code mm.1 mm.2.1 mm.2.2.1 mm.2.2.2.1 :: TBL), w.before vals.toArray s = true := atoms_spec (ws := Cond.code mm.1 mm.2.1 mm.2.2.1 mm.2.2.2.1 :: TBL) B.pre
    have hown : s.vm.findClass mm.1.cls = some m.cls := findClass_of_methodNamed B.named
    have hD : z_Dy s m vals.toArray (Cond.code mm.1 mm.2.1 mm.2.2.1 mm.2.2.2.1 :: TBL) mm.1.cls D cl DA (z_tys DA) := ⟨hts, hown, hK, z_tys_ok DA⟩
    have hname : meth.name = mm.1.name := (name_of_methodNamed B.named B.method).1
    rw [lg_entry_eq]
    have he0 : env[0]? = some (.ref a) := hvals 0 _ a1
    have hpos : 0 < z_n st0 := by rw [← hsat.1]; exact (List.getElem?_eq_some_iff.mp he0).1
    refine W.widen (Nat.zero_le _) (Nat.zero_le _) (z_runs (CU := []) (ng := z_n st0) (ends := fun env2 : List Value => env2[0]? = some (Value.ref a)) (fun env1 env2 he hgh => (hgh 0 hpos).trans he) (fun env1 pc st L he hL hall => ?_) (stp := z_hst hk (z_stp TY PHI cl FT MT SG RO PHS (z_room (zc_g k0 ci tau nw mk rm)) false mm.2.2.1 ce.1 mm.2.1 (fun st => zc_fin TY cl f ci tau mk st && zc_nw cl ci st nw) (fun _ => false))) (fuel := ce.2.2) rfl h0 he0 (by rw [hsat.1]; exact Nat.le_refl _) hsat)
    unfold z_hst at hL
    split at hL
    · rename_i L2 hL2
      cases hL
      exact hH p l e s m vals.toArray below meth c _ OB D DA sz (some a) (fun _ => none) s.heap env1 (fun pc st => ∀ T2 H2 locs2 env2 ls2 stk2, z_sat OB D DA cl TY PHI sz (some a) false (fun _ => none) s.heap env1 mm.2.2.1 st T2 H2 locs2 env2 ls2 stk2 → W p l e (z_room (zc_g k0 ci tau nw mk rm)) s m vals.toArray below meth c H2 locs2 (z_C st).1 (z_C st).2 (MQ below (z_Post OB D DA cl TY PHI sz (zc_g k0 ci tau nw mk rm) T) vals.toArray s mk.1 mk.2 (fun q => sz ≤ q)) (F0 m pc ls2 stk2)) (fun _ _ => Iff.rfl) B.exec B.bytes hml hD hsz hX pc st L hL2 hall
    refine z_stp_ok (good := fun pc st => ∀ T2 H2 locs2 env2 ls2 stk2, z_sat OB D DA cl TY PHI sz (some a) false (fun _ => none) s.heap env1 mm.2.2.1 st T2 H2 locs2 env2 ls2 stk2 → W p l e (z_room (zc_g k0 ci tau nw mk rm)) s m vals.toArray below meth c H2 locs2 (z_C st).1 (z_C st).2 (MQ below (z_Post OB D DA cl TY PHI sz (zc_g k0 ci tau nw mk rm) T) vals.toArray s mk.1 mk.2 (fun q => sz ≤ q)) (F0 m pc ls2 stk2)) (fun _ _ => Iff.rfl) B.exec B.bytes hml hD hsz (hXp OB sz) hX hKS (fun j hj => by rw [hname]; exact hin j hj) hPH hok (fun pc st hd hfin => ?_) (fun pc st hd hfin => by cases hfin) hL hall
    intro T2 H2 locs2 env2 ls2 stk2 hs
    have he2 : env2[0]? = some (.ref a) := by
      obtain ⟨w, hw⟩ := hs.2.1
      rw [hw]; exact z_app he
    rw [Bool.and_eq_true] at hfin
    obtain ⟨hfin, hnw⟩ := hfin
    have hht := zc_ht hf h4 a2 hs he2 hfin
    have hfin2 := hfin
    unfold zc_fin at hfin2
    simp only [Bool.and_eq_true] at hfin2
    obtain ⟨⟨⟨g1, g2, g3⟩, g4, -⟩, -⟩ := hfin2
    obtain ⟨q0, hq0, hq1⟩ := List.any_eq_true.mp g4
    rw [Bool.and_eq_true] at hq1
    obtain ⟨b2, x1, x2, x3, -⟩ := z_fx_in hs.2.2.2.2.2.2.2.2.1 q0 hq0
    rw [z_beq hq1.1, he2] at x1
    have ea : a = b2 := by cases x1; rfl
    subst ea
    have hm := hs.2.2.2.2.2.2.2.2.2
    have hk2 := hs.2.2.2.1
    rw [List.isEmpty_iff.mp g1] at hk2
    have hk2 : stk2 = [] := hk2
    subst hk2
    have hr : meth.sig.returnType = none := B.returns.trans hret
    have lt : ∀ q t, T q = some t → q < s.heap.size ∧ q ≠ a := by
      intro q t ht
      obtain ⟨ty, y1, y2⟩ := h4.1 q t ht
      exact ⟨z_cell_lt y2, fun e => by rw [e, a2] at ht; cases ht⟩
    refine W.widen (Nat.le_of_ble_eq_true g2) (Nat.le_of_ble_eq_true g3) (W.vret B.exec B.bytes hr (fun t ht _ => ?_) (fun q hq => hm.2.2.2.2.2.2 q hq) hd B.notSynchronized)
    refine ⟨vals, none, zc_T TY f a tau T T2, rfl, rfl, by rw [ht]; exact hht, fun q u hq => ?_, fun q u hq => zc_T_old (lt q u hq).2 hq, fun q hq1 hq2 hq3 => ?_, by rw [ht]; exact hm.2.2.2.2.1, fun q hq1 hq2 => by rw [ht]; exact hm.2.2.2.2.2.1 q hq1 hq2, ⟨fun h => (by cases h), fun q u c fl hq hty => ⟨u, fl, zc_T_old (lt q u hq).2 hq, hty, fun r k w y1 y2 y3 y4 => ?_⟩⟩, _, List.mem_singleton.mpr rfl, fun q hq => ?_, trivial, fun q hq => ?_, fun i q h hi => ?_⟩
    · rcases zc_T_inv hq with ⟨rfl, rfl⟩ | ⟨e, g⟩ | ⟨e, g, u2, o, g2, g3, rfl⟩
      · exact a3
      · exact h5 q u g
      · exact hm.2.1.1 q u2 g2
    · have hne : q ≠ a := fun e => hq3 rfl (by rw [e]; exact a1)
      have hun := hm.2.2.2.1 q hq1 rfl (fun e => by cases e; exact hne rfl)
      refine ⟨?_, by rw [ht]; exact hun.2⟩
      cases hT : zc_T TY f a tau T T2 q with
      | none => rfl
      | some u =>
        rcases zc_T_inv hT with ⟨e, -⟩ | ⟨-, g⟩ | ⟨-, -, u2, o, g2, -⟩
        · exact absurd e hne
        · rw [hq2] at g; cases g
        · rw [hun.1] at g2; cases g2
    · obtain ⟨l1, l2⟩ := lt q u hq
      have hun := hm.2.2.2.1 q l1 rfl (fun e => by cases e; exact l2 rfl)
      obtain ⟨cell, c1, c2⟩ := y4
      exact ⟨cell, by rw [ht, hun.2]; exact c1, c2⟩
    · have hq : q ∈ ([(0, .inr (.inl tau))] : List (Nat × zV)) := hq
      rw [List.mem_singleton.mp hq]
      exact ⟨_, a1, a, rfl, zc_T_at⟩
    · obtain ⟨x, r, n1, n2, n3⟩ := zc_nw_ok hnw hs he2 q hq
      rw [ht]
      refine ⟨.int x, ?_, by rw [n2]; exact ⟨x, rfl, n3⟩⟩
      obtain ⟨n0, n4⟩ := n1
      rw [n0, a1]
      exact n4
    · have hi : ([] : List (zLoc × zV))[i]? = some q := hi
      simp at hi
  · cases h0
end ZCONS2
end
section
/-! The law from its entry to its head: what is made there. -/
def zy_nw (cl : List vw_C) (d : Nat) (st : zS) (nw : List (zLoc × zV)) : Bool := nw.all fun q => (match cl[q.1.2.1]? with
  | some r => Nat.blt q.1.2.2.1 r.2.2
  | none => false) && (match q.1.2.2.2, z_ffind st d q.1.2.1 q.1.2.2.1, q.2 with
  | some e, some w, .inl r => (z_E st).any (fun t => Nat.beq t.1 w && (match z_get (z_V st) t.2.1, z_get (z_V st) t.2.2 with
    | some (.inl i), some (.inl v) => (z_ile (e : Nat) i.1 && z_ile i.2 (e : Nat)) && (z_ile r.1 v.1 && z_ile v.2 r.2)
    | _, _ => false))
  | _, _, _ => false)
theorem zy_nw_ok {OB : Nat → Nat} {D : va_G} {DA : Nat → ClassId} {cl : List vw_C} {TY : List zTy} {PHI : List (List Nat)} {sz : Nat} {raw : Option Nat} {pu : Bool} {T0 T : zTp} {H0 H : Heap} {env0 env : List Value} {nL : Nat} {st : zS} {locs : List Loc} {ls : Array Slot} {stk : List Value} {d a : Nat} {nw : List (zLoc × zV)} (h : zy_nw cl d st nw = true) (hs : z_sat OB D DA cl TY PHI sz raw pu T0 H0 env0 nL st T H locs env ls stk) (h0 : env[d]? = some (.ref a)) :
    ∀ q ∈ nw, ∃ (x : Int32) (r : zR), z_lv D cl H (some (.ref a)) q.1 (.int x) ∧ q.2 = .inl r ∧ z_in r x := by
  intro q hq
  have h1 := List.all_eq_true.mp h q hq
  rw [Bool.and_eq_true] at h1
  obtain ⟨c3, c4⟩ := h1
  split at c3
  · rename_i r0 hr0
    split at c4
    · rename_i e w r he hw hr
      obtain ⟨t, ht, ht2⟩ := List.any_eq_true.mp c4
      rw [Bool.and_eq_true] at ht2
      obtain ⟨d1, d2⟩ := ht2
      split at d2
      · rename_i i v hi hv
        simp only [Bool.and_eq_true] at d2
        obtain ⟨⟨i1, i2⟩, v1, v2⟩ := d2
        obtain ⟨a2, w2, e1, e2, e3⟩ := z_ffind_ok hw hs
        rw [h0] at e1
        cases e1
        obtain ⟨a3, x, w3, f1, f2, f3, f4, f5⟩ := hs.2.2.2.2.2.2.1 t ht
        rw [z_beq d1, e2] at f1
        cases f1
        obtain ⟨xi, g1, xi2, rfl, g2⟩ := z_get_ok hs.2.2.2.2.1 hi
        rw [f2] at g1
        cases g1
        obtain ⟨xv, k1, xv2, rfl, k2⟩ := z_get_ok hs.2.2.2.2.1 hv
        rw [f4] at k1
        cases k1
        have j1 := z_ile_ok i1
        have j2 := z_ile_ok i2
        have j3 := g2.1
        have j4 := g2.2
        have ex : x.toInt.toNat = e := by omega
        rw [ex] at f5
        refine ⟨xv2, r, ⟨a, r0, rfl, hr0, z_blt c3, ?_⟩, hr, z_in_le (z_ile_ok v1) (z_ile_ok v2) k2⟩
        rw [he]
        exact ⟨a3, e3, f5⟩
      · cases d2
    · cases c4
  · cases c3
def zy_fit (cl : List vw_C) (tx tm : Nat) (mk : Nat × Nat) (nw : List (zLoc × zV)) (st : zS) : Bool := match z_loc (z_L st) 0, z_loc (z_L st) 1, z_loc (z_L st) 2, z_loc (z_L st) 3 with
  | some d0, some d1, some d2, some d3 => (match z_get (z_V st) d1, z_get (z_V st) d2, z_get (z_V st) d3 with
    | some (.inr (.inl t1)), some (.inr (.inl t2)), some (.inl r) => (Nat.beq t1 tx && Nat.beq t2 tm) && (z_ile 0 r.1 && z_ile r.2 0)
    | _, _, _ => false) && ((Nat.beq d0 0 && (z_S st).isEmpty) && ((Nat.ble (z_C st).1 mk.1 && Nat.ble (z_C st).2 mk.2) && zy_nw cl d2 st nw))
  | _, _, _, _ => false
def zy_hs (cl : List vw_C) (hpc tx tm : Nat) (mk : Nat × Nat) (nw : List (zLoc × zV)) : zHk := fun pc st => cond (Nat.beq pc hpc && zy_fit cl tx tm mk nw st) (some []) none
def zy_chk (TY : List zTy) (PHI : List (List Nat)) (cl : List vw_C) (FT : Nat → Nat → FieldType) (MT : List zM) (SG : List (Nat × zSig)) (PHS : List Nat) (R : Room) (nL mc ms : Nat) (cc : ByteArray) (ce : zCe) (hpc tx tm : Nat) (mk : Nat × Nat) (nw : List (zLoc × zV)) (N : Int) : Bool := z_run (zm_stp TY PHI cl FT MT SG PHS R nL mc ms cc ce.1 (zy_hs cl hpc tx tm mk nw)) (z_cut [] 2 none) ce.2.2 0 (zm_st0 N)
/-- what stands at the head: the objects, by their types -/
def zy_H (OB : Nat → Nat) (D : va_G) (DA : Nat → ClassId) (cl : List vw_C) (TY : List zTy) (sz : Nat) (H0 : Heap) (nL b tx tm : Nat) (nw : List (zLoc × zV)) (T : zTp) (H : Heap) (locs : List Loc) (ls : Array Slot) (x m : Nat) : Prop :=
  (z_ht OB D DA cl TY T H ∧ (∀ a t, T a = some t → sz ≤ a) ∧ va_S (fun q => sz ≤ q) H0 H locs) ∧ (T x = some tx ∧ T m = some tm) ∧
  (∃ lv, lv_has ls nL lv ∧ (∀ q ∈ lv, q.2.category = 1) ∧ (0, Value.ref b) ∈ lv ∧ (1, Value.ref x) ∈ lv ∧ (2, Value.ref m) ∈ lv ∧ (3, Value.int 0) ∈ lv) ∧
  ∀ q ∈ nw, ∃ (y : Int32) (r : zR), z_lv D cl H (some (.ref m)) q.1 (.int y) ∧ q.2 = .inl r ∧ z_in r y
section ZYSTART
variable {p : Program} {l : Launch} {e : Env} {R : Room} {s : State} {m : MethodId} {args : Array Value} {below : List Frame} {meth : Method} {c : Code} {Q : State → Prop} {cc : ByteArray}
variable {OB : Nat → Nat} {D : va_G} {DA : Nat → ClassId} {cl : List vw_C} {FT : Nat → Nat → FieldType} {TY : List zTy} {PHI : List (List Nat)} {nL : Nat} {KXf : (Nat → Nat) → Nat → State → Heap → Prop}
variable {TBL : List Cond} {own : String} {MT : List zM} {SG : List (Nat × zSig)} {PHS : List Nat} {ce : zCe} {mc ms : Nat} {b L N : Nat} {xs : Nat → Int32} {hpc tx tm : Nat} {mk : Nat × Nat} {nw : List (zLoc × zV)}
theorem zy_start (hx : p.tables.exec = Jvm.exec) (hb : c.code = cc) (hml : c.maxLocals = nL) (hN : N ≤ 100000) (hL : L ≤ N) (hOB : OB 0 = b) (hD : z_Dy s m args TBL own D cl DA (z_tys DA)) (hXp : z_KXp s.heap.size (KXf OB s.heap.size)) (hKX : KXf OB s.heap.size s s.heap) (hKS : z_KS TBL TBL cl FT own MT ce.1) (hin : k_IN ce.1 = none) (hPH : ∀ a ∈ PHS, z_phok TY PHI a = true)
    (hok : ∀ g ∈ (k_CA ce.1).filterMap (fun a => SG[a.2]?), ∀ m2, MT[g.1]? = some m2 → z_OK TBL cl FT TY PHI KXf m2.1 m2.2.1 m2.2.2.1 m2.2.2.2.1 g.2) (hend : ∀ pc H ls, decode cc pc = .ok (.ireturn, 1) → W p l e R s m args below meth c H [] mc ms Q (F0 m pc ls [.int 1]))
    (hS : zy_chk TY PHI cl FT MT SG PHS R nL mc ms cc ce hpc tx tm mk nw (N : Int) = true)
    (hI : ∀ T H locs ls x m2, zy_H OB D DA cl TY s.heap.size s.heap nL b tx tm nw T H locs ls x m2 → W p l e R s m args below meth c H locs mk.1 mk.2 Q (F0 m hpc ls []))
    {ls : Array Slot} (hls : z_ls nL ls [.ref b, .int (Int32.ofNat L)] [(0, 0)]) : W p l e R s m args below meth c s.heap [] 0 0 Q (F0 m 0 ls []) := by
  have hLi : (Int32.ofNat L).toInt = (L : Int) := Int32.toInt_ofNat_of_lt (by omega)
  have hsat : z_sat OB D DA cl TY PHI s.heap.size none false (fun _ => none) s.heap [.ref b, .int (Int32.ofNat L)] nL (zm_st0 (N : Int)) (fun _ => none) s.heap [] [.ref b, .int (Int32.ofNat L)] ls [] := by
    refine ⟨rfl, ⟨[], by rw [List.append_nil]⟩, hls, rfl, fun q hq => ?_, fun q hq => absurd hq List.not_mem_nil, fun q hq => absurd hq List.not_mem_nil, fun q hq => absurd hq List.not_mem_nil, trivial, ⟨fun a t ht => absurd ht (by simp), fun a t ci fl ha => absurd ha (by simp), fun a a' t t' ci fl fl' ha => absurd ha (by simp)⟩, ⟨fun a t ht => absurd ht (by simp), fun h => absurd h (by simp), z_fin_rf⟩, fun a t ht => absurd ht (by simp), fun q _ _ _ => ⟨rfl, rfl⟩, va_S.rf⟩
    rcases List.mem_cons.mp hq with rfl | hq
    · exact ⟨_, rfl, by show _ = Value.ref (OB 0); rw [hOB]⟩
    rcases List.mem_cons.mp hq with rfl | hq
    · exact ⟨_, rfl, _, rfl, by rw [z_in, hLi]; exact ⟨by show (0 : Int) ≤ _; omega, by show _ ≤ (N : Int); omega⟩⟩
    cases hq
  refine z_runs (CU := []) (ng := 2) (ends := fun env : List Value => env[0]? = some (Value.ref b) ∧ env[1]? = some (Value.int (Int32.ofNat L))) (fun env1 env2 he hgh => ⟨(hgh 0 (by omega)).trans he.1, (hgh 1 (by omega)).trans he.2⟩) (fun env1 pc st Ls he hL2 hall => ?_) (stp := zm_stp TY PHI cl FT MT SG PHS R nL mc ms cc ce.1 (zy_hs cl hpc tx tm mk nw)) (fuel := ce.2.2) rfl hS ⟨rfl, rfl⟩ (Nat.le_refl _) hsat
  have hgg : z_Good p l e R s m args below meth c Q OB D DA cl TY PHI s.heap.size none false (fun _ => none) s.heap env1 nL (fun pc st => ∀ T2 H2 locs2 env2 ls2 stk2, z_sat OB D DA cl TY PHI s.heap.size none false (fun _ => none) s.heap env1 nL st T2 H2 locs2 env2 ls2 stk2 → W p l e R s m args below meth c H2 locs2 (z_C st).1 (z_C st).2 Q (F0 m pc ls2 stk2)) := fun _ _ => Iff.rfl
  unfold zm_stp z_hst at hL2
  split at hL2
  · rename_i L3 hL3
    cases hL2
    unfold zy_hs at hL3
    obtain ⟨hc, -⟩ := z_cond hL3
    rw [Bool.and_eq_true] at hc
    have hpc2 := z_beq hc.1
    subst hpc2
    intro T H locs env ls2 stk hs
    have hf := hc.2
    unfold zy_fit at hf
    split at hf
    · rename_i d0 d1 d2 d3 l0 l1 l2 l3
      simp only [Bool.and_eq_true] at hf
      obtain ⟨hv, ⟨h0, hS0⟩, ⟨c1, c2⟩, hnw⟩ := hf
      split at hv
      · rename_i t1 t2 r v1 v2 v3
        simp only [Bool.and_eq_true] at hv
        obtain ⟨⟨e1, e2⟩, r1, r2⟩ := hv
        obtain ⟨w1, x1, a1, rfl, y1⟩ := z_get_ok hs.2.2.2.2.1 v1
        obtain ⟨w2, x2, a2, rfl, y2⟩ := z_get_ok hs.2.2.2.2.1 v2
        obtain ⟨w3, x3, a3, rfl, y3⟩ := z_get_ok hs.2.2.2.2.1 v3
        have k1 := z_ile_ok r1
        have k2 := z_ile_ok r2
        have k3 := y3.1
        have k4 := y3.2
        have ea : a3 = 0 := z_int0 (by omega)
        subst ea
        obtain ⟨lv, m1, m2, m3⟩ := hs.2.2.1
        obtain ⟨w, hw⟩ := hs.2.1
        have mem : ∀ {i d : Nat} {v : Value}, z_loc (z_L st) i = some d → env[d]? = some v → (i, v) ∈ lv := fun hl he => by
          obtain ⟨v, q1, q2⟩ := m3 _ (z_loc_mem hl)
          have q1 : env[_]? = some v := q1
          rw [he] at q1
          cases q1
          exact q2
        have hk := hs.2.2.2.1
        rw [List.isEmpty_iff.mp hS0] at hk
        have hk : stk = [] := hk
        subst hk
        have hm := hs.2.2.2.2.2.2.2.2.2
        have hb0 : env[d0]? = some (Value.ref b) := by rw [z_beq h0, hw]; exact z_app he.1
        exact W.widen (Nat.le_of_ble_eq_true c1) (Nat.le_of_ble_eq_true c2) (hI T H locs ls2 a1 a2 ⟨⟨hm.1, hm.2.1.1, hm.2.2.2.2⟩, ⟨by rw [y1, z_beq e1], by rw [y2, z_beq e2]⟩, ⟨lv, m1, m2, mem l0 hb0, mem l1 x1, mem l2 x2, mem l3 x3⟩, zy_nw_ok hnw hs x2⟩)
      · cases hv
    · cases hf
  · exact z_stp_ok hgg hx hb hml hD (Nat.le_refl _) hXp hKX hKS (fun j hj => by rw [hin] at hj; cases hj) hPH hok (fun pc st hd hf => by cases hf) (fun pc st hd hf => zl_fin_ok hgg rfl hend hd hf) hL2 hall
end ZYSTART
end
section
/-! Types, fresh from the constructors. -/
def zxT0 : List zTy := [.inr (0, (24, 24), [((0, 23), .inl (.ofNat 0, .ofNat 0))]), .inr (0, (24, 24), [((0, 23), .inl (.ofNat 0, .ofNat 0))]), .inr (0, (24, 24), [((0, 23), .inl (.ofNat 0, .ofNat 0))]), .inr (0, (24, 24), [((0, 23), .inl (.ofNat 0, .ofNat 0))]), .inr (0, (24, 24), [((0, 23), .inl (.ofNat 0, .ofNat 0))]), .inl (1, [.inl (.ofNat 0, .ofNat 0), .inr (.inl 0), .inr (.inl 1), .inr (.inl 2), .inr (.inl 3), .inr (.inl 4), .inl (.ofNat 0, .ofNat 0), .inl (.ofNat 0, .ofNat 0), .inl (.ofNat 0, .ofNat 0), .inl (.ofNat 4, .ofNat 4), .inl (.ofNat 3, .ofNat 3), .inl (.ofNat 1, .ofNat 1)]), .inr (0, (24, 24), [((0, 23), .inl (.ofNat 0, .ofNat 0))]), .inr (0, (24, 24), [((0, 23), .inl (.ofNat 0, .ofNat 0))]), .inr (0, (24, 24), [((0, 23), .inl (.ofNat 0, .ofNat 0))]), .inr (0, (24, 24), [((0, 23), .inl (.ofNat 0, .ofNat 0))]), .inr (0, (24, 24), [((0, 23), .inl (.ofNat 0, .ofNat 0))]), .inl (1, [.inl (.ofNat 0, .ofNat 0), .inr (.inl 6), .inr (.inl 7), .inr (.inl 8), .inr (.inl 9), .inr (.inl 10), .inl (.ofNat 0, .ofNat 0), .inl (.ofNat 0, .ofNat 0), .inl (.ofNat 0, .ofNat 0), .inl (.ofNat 4, .ofNat 4), .inl (.ofNat 3, .ofNat 3), .inl (.ofNat 1, .ofNat 1)]), .inr (0, (24, 24), [((0, 23), .inl (.ofNat 0, .ofNat 0))]), .inr (0, (24, 24), [((0, 23), .inl (.ofNat 0, .ofNat 0))]), .inr (0, (24, 24), [((0, 23), .inl (.ofNat 0, .ofNat 0))]), .inr (0, (24, 24), [((0, 23), .inl (.ofNat 0, .ofNat 0))]), .inr (0, (24, 24), [((0, 23), .inl (.ofNat 0, .ofNat 0))]), .inl (1, [.inl (.ofNat 0, .ofNat 0), .inr (.inl 12), .inr (.inl 13), .inr (.inl 14), .inr (.inl 15), .inr (.inl 16), .inl (.ofNat 0, .ofNat 0), .inl (.ofNat 0, .ofNat 0), .inl (.ofNat 0, .ofNat 0), .inl (.ofNat 4, .ofNat 4), .inl (.ofNat 3, .ofNat 3), .inl (.ofNat 1, .ofNat 1)]), .inr (0, (12, 12), [((0, 11), .inl (.ofNat 0, .ofNat 0))]), .inr (0, (6, 6), [((0, 5), .inl (.ofNat 0, .ofNat 0))])]
def zxT1 : List zTy := [.inl (2, [.inr (.inl 18), .inl (.ofNat 0, .ofNat 0), .inr (.inl 19)]), .inr (0, (12, 12), [((0, 11), .inl (.ofNat 0, .ofNat 0))]), .inr (0, (6, 6), [((0, 5), .inl (.ofNat 0, .ofNat 0))]), .inl (2, [.inr (.inl 21), .inl (.ofNat 0, .ofNat 0), .inr (.inl 22)]), .inr (0, (220, 220), [((0, 219), .inl (.ofNat 0, .ofNat 0))]), .inl (3, [.inr (.inl 24), .inl (.ofNat 0, .ofNat 0)]), .inr (0, (200, 200), [((0, 199), .inl (.ofNat 0, .ofNat 0))]), .inr (0, (200, 200), [((0, 199), .inl (.ofNat 0, .ofNat 0))]), .inr (0, (14, 14), [((0, 13), .inl (.ofNat 0, .ofNat 0))]), .inr (0, (14, 14), [((0, 13), .inl (.ofNat 0, .ofNat 0))]), .inr (0, (14, 14), [((0, 13), .inl (.ofNat 0, .ofNat 0))]), .inr (0, (14, 14), [((0, 13), .inl (.ofNat 0, .ofNat 0))]), .inr (0, (13, 13), [((0, 12), .inl (.ofNat 0, .ofNat 0))]), .inr (0, (40, 40), [((0, 39), .inl (.ofNat 0, .ofNat 0))]), .inl (4, [.inr (.inl 26), .inr (.inl 27), .inl (.ofNat 0, .ofNat 0), .inr (.inl 28), .inr (.inl 29), .inr (.inl 30), .inr (.inl 31), .inl (.ofNat 0, .ofNat 0), .inl (.ofNat 0, .ofNat 0), .inl (.ofNat 0, .ofNat 0), .inl (.ofNat 0, .ofNat 0), .inl (.ofNat 0, .ofNat 0), .inr (.inl 32), .inr (.inl 33), .inl (.ofNat 0, .ofNat 0)]), .inr (0, (200, 200), [((0, 199), .inl (.ofNat 0, .ofNat 0))]), .inr (0, (200, 200), [((0, 199), .inl (.ofNat 0, .ofNat 0))]), .inr (0, (14, 14), [((0, 13), .inl (.ofNat 0, .ofNat 0))]), .inr (0, (14, 14), [((0, 13), .inl (.ofNat 0, .ofNat 0))]), .inr (0, (14, 14), [((0, 13), .inl (.ofNat 0, .ofNat 0))])]
def zxT2 : List zTy := [.inr (0, (14, 14), [((0, 13), .inl (.ofNat 0, .ofNat 0))]), .inr (0, (13, 13), [((0, 12), .inl (.ofNat 0, .ofNat 0))]), .inr (0, (40, 40), [((0, 39), .inl (.ofNat 0, .ofNat 0))]), .inl (4, [.inr (.inl 35), .inr (.inl 36), .inl (.ofNat 0, .ofNat 0), .inr (.inl 37), .inr (.inl 38), .inr (.inl 39), .inr (.inl 40), .inl (.ofNat 0, .ofNat 0), .inl (.ofNat 0, .ofNat 0), .inl (.ofNat 0, .ofNat 0), .inl (.ofNat 0, .ofNat 0), .inl (.ofNat 0, .ofNat 0), .inr (.inl 41), .inr (.inl 42), .inl (.ofNat 0, .ofNat 0)]), .inl (5, [.inr (.inl 24), .inl (.ofNat 0, .ofNat 0), .inl (.ofNat 0, .ofNat 0), .inl (.ofNat 0, .ofNat 0), .inr (.inl 43)]), .inr (0, (8, 8), [((0, 7), .inl (.ofNat 0, .ofNat 0))]), .inl (6, [.inl (.ofNat 0, .ofNat 0), .inl (.ofNat 0, .ofNat 0), .inr (.inl 45)]), .inr (0, (8, 8), [((0, 7), .inl (.ofNat 0, .ofNat 0))]), .inl (6, [.inl (.ofNat 0, .ofNat 0), .inl (.ofNat 0, .ofNat 0), .inr (.inl 47)]), .inr (0, (24, 24), [((0, 23), .inl (.ofNat 0, .ofNat 0))]), .inr (0, (24, 24), [((0, 23), .inl (.ofNat 0, .ofNat 0))]), .inr (0, (24, 24), [((0, 23), .inl (.ofNat 0, .ofNat 0))]), .inl (7, [.inr (.inl 5), .inr (.inl 34), .inl (.ofNat 0, .ofNat 0), .inl (.ofNat 0, .ofNat 0), .inl (.ofNat 0, .ofNat 0), .inr (.inl 49), .inl (.ofNat 0, .ofNat 0), .inl (.ofNat 0, .ofNat 0), .inr (.inl 50), .inr (.inl 51)]), .inr (0, (24, 24), [((0, 23), .inl (.ofNat 0, .ofNat 0))]), .inr (0, (24, 24), [((0, 23), .inl (.ofNat 0, .ofNat 0))]), .inr (0, (24, 24), [((0, 23), .inl (.ofNat 0, .ofNat 0))]), .inl (7, [.inr (.inl 5), .inr (.inl 34), .inl (.ofNat 0, .ofNat 0), .inl (.ofNat 0, .ofNat 0), .inl (.ofNat 0, .ofNat 0), .inr (.inl 53), .inl (.ofNat 0, .ofNat 0), .inl (.ofNat 0, .ofNat 0), .inr (.inl 54), .inr (.inl 55)]), .inr (0, (72, 72), [((0, 71), .inl (.ofNat 0, .ofNat 0))]), .inr (0, (24, 24), [((0, 23), .inl (.ofNat 0, .ofNat 0))]), .inr (0, (8, 8), [((0, 7), .inl (.ofNat 0, .ofNat 0))])]
def zxT3 : List zTy := [.inl (8, [.inr (.inl 57), .inr (.inl 58), .inr (.inl 59), .inr (.inl 46), .inr (.inl 49), .inl (.negSucc 0, .negSucc 0), .inl (.ofNat 0, .ofNat 0)]), .inr (0, (24, 24), [((0, 23), .inl (.ofNat 0, .ofNat 0))]), .inr (0, (264, 264), [((0, 263), .inl (.ofNat 0, .ofNat 0))]), .inr (0, (264, 264), [((0, 263), .inl (.ofNat 0, .ofNat 0))]), .inr (0, (264, 264), [((0, 263), .inl (.ofNat 0, .ofNat 0))]), .inr (0, (264, 264), [((0, 263), .inl (.ofNat 0, .ofNat 0))]), .inr (0, (288, 288), [((0, 287), .inl (.ofNat 0, .ofNat 0))]), .inr (0, (288, 288), [((0, 287), .inl (.ofNat 0, .ofNat 0))]), .inr (0, (288, 288), [((0, 287), .inl (.ofNat 0, .ofNat 0))]), .inr (0, (288, 288), [((0, 287), .inl (.ofNat 0, .ofNat 0))]), .inl (9, [.inl (.ofNat 0, .ofNat 0), .inl (.negSucc 0, .negSucc 0), .inl (.ofNat 0, .ofNat 0), .inl (.negSucc 0, .negSucc 0), .inr (.inl 61), .inr (.inl 62), .inr (.inl 63), .inr (.inl 64), .inr (.inl 65), .inl (.ofNat 0, .ofNat 0), .inl (.negSucc 0, .negSucc 0), .inr (.inl 66), .inr (.inl 67), .inr (.inl 68), .inr (.inl 69)]), .inr (0, (288, 288), [((0, 287), .inl (.ofNat 0, .ofNat 0))]), .inr (2, (288, 288), [((0, 287), .inr (.inr 0))]), .inr (0, (12, 12), [((0, 11), .inl (.ofNat 0, .ofNat 0))]), .inr (0, (24, 24), [((0, 23), .inl (.ofNat 0, .ofNat 0))]), .inr (0, (24, 24), [((0, 23), .inl (.ofNat 0, .ofNat 0))]), .inl (10, [.inr (.inl 71), .inr (.inl 72), .inr (.inl 73), .inl (.ofNat 0, .ofNat 0), .inr (.inl 74), .inr (.inl 75), .inr (.inl 5)]), .inr (0, (8, 8), [((0, 7), .inl (.ofNat 0, .ofNat 0))]), .inr (0, (24, 24), [((0, 23), .inl (.ofNat 0, .ofNat 0))]), .inr (0, (24, 24), [((0, 23), .inl (.ofNat 0, .ofNat 0))])]
def zxT4 : List zTy := [.inr (0, (24, 24), [((0, 23), .inl (.ofNat 0, .ofNat 0))]), .inr (0, (24, 24), [((0, 23), .inl (.ofNat 0, .ofNat 0))]), .inr (0, (1000, 1000), [((0, 999), .inl (.ofNat 0, .ofNat 0))]), .inr (0, (1000, 1000), [((0, 999), .inl (.ofNat 0, .ofNat 0))]), .inl (11, [.inr (.inl 77), .inr (.inl 78), .inr (.inl 79), .inr (.inl 80), .inr (.inl 81), .inr (.inl 82), .inr (.inl 83)]), .inr (0, (288, 288), [((0, 287), .inl (.ofNat 0, .ofNat 0))]), .inl (0, [.inr (.inl 5), .inr (.inl 11), .inr (.inl 17), .inr (.inl 20), .inr (.inl 23), .inl (.ofNat 0, .ofNat 0), .inr (.inl 25), .inr (.inl 34), .inr (.inl 43), .inr (.inl 44), .inr (.inl 46), .inr (.inl 48), .inr (.inl 52), .inr (.inl 56), .inr (.inl 60), .inr (.inl 70), .inr (.inl 76), .inr (.inl 84), .inr (.inl 85)]), .inr (0, (422, 422), [((0, 23), .inl (.ofNat 0, .ofNat 0)), ((24, 47), .inl (.ofNat 0, .ofNat 0)), ((48, 71), .inl (.ofNat 0, .ofNat 0)), ((72, 95), .inl (.ofNat 0, .ofNat 0)), ((96, 119), .inl (.ofNat 0, .ofNat 0)), ((120, 125), .inl (.ofNat 0, .ofNat 0)), ((126, 126), .inl (.ofNat 0, .ofNat 0)), ((127, 127), .inl (.ofNat 0, .ofNat 0)), ((128, 128), .inl (.ofNat 0, .ofNat 0)), ((129, 129), .inl (.ofNat 0, .ofNat 0)), ((130, 130), .inl (.ofNat 0, .ofNat 0)), ((131, 131), .inl (.ofNat 0, .ofNat 4)), ((132, 132), .inl (.ofNat 0, .ofNat 3)), ((133, 133), .inl (.ofNat 0, .ofNat 1)), ((134, 421), .inl (.ofNat 0, .ofNat 0)), ((0, 421), .inl (.ofNat 0, .ofNat 4))]), .inr (0, (422, 422), [((0, 23), .inl (.ofNat 0, .ofNat 0)), ((24, 47), .inl (.ofNat 0, .ofNat 0)), ((48, 71), .inl (.ofNat 0, .ofNat 0)), ((72, 95), .inl (.ofNat 0, .ofNat 0)), ((96, 119), .inl (.ofNat 0, .ofNat 0)), ((120, 125), .inl (.ofNat 0, .ofNat 0)), ((126, 126), .inl (.ofNat 0, .ofNat 0)), ((127, 127), .inl (.ofNat 0, .ofNat 0)), ((128, 128), .inl (.ofNat 0, .ofNat 0)), ((129, 129), .inl (.ofNat 0, .ofNat 0)), ((130, 130), .inl (.ofNat 0, .ofNat 0)), ((131, 131), .inl (.ofNat 0, .ofNat 0)), ((132, 132), .inl (.ofNat 0, .ofNat 0)), ((133, 133), .inl (.ofNat 0, .ofNat 0)), ((134, 421), .inl (.ofNat 0, .ofNat 0)), ((0, 421), .inl (.ofNat 0, .ofNat 0))]), .inr (0, (422, 422), [((0, 23), .inl (.ofNat 0, .ofNat 0)), ((24, 47), .inl (.ofNat 0, .ofNat 0)), ((48, 71), .inl (.ofNat 0, .ofNat 0)), ((72, 95), .inl (.ofNat 0, .ofNat 0)), ((96, 119), .inl (.ofNat 0, .ofNat 0)), ((120, 125), .inl (.ofNat 0, .ofNat 0)), ((126, 126), .inl (.ofNat 0, .ofNat 0)), ((127, 127), .inl (.ofNat 0, .ofNat 0)), ((128, 128), .inl (.ofNat 0, .ofNat 0)), ((129, 129), .inl (.ofNat 0, .ofNat 0)), ((130, 130), .inl (.ofNat 0, .ofNat 0)), ((131, 131), .inl (.ofNat 0, .ofNat 0)), ((132, 132), .inl (.ofNat 0, .ofNat 0)), ((133, 133), .inl (.ofNat 0, .ofNat 0)), ((134, 421), .inl (.ofNat 0, .ofNat 0)), ((0, 421), .inl (.ofNat 0, .ofNat 0))]), .inr (1, (220, 220), [((0, 219), .inl (.ofNat 0, .ofNat 0))]), .inr (0, (220, 220), [((0, 219), .inl (.ofNat 0, .ofNat 0))]), .inr (0, (220, 220), [((0, 219), .inl (.ofNat 0, .ofNat 0))]), .inr (0, (14, 14), [((0, 13), .inl (.ofNat 0, .ofNat 0))]), .inr (0, (14, 14), [((0, 13), .inl (.ofNat 0, .ofNat 0))]), .inr (0, (14, 14), [((0, 13), .inl (.ofNat 0, .ofNat 0))]), .inr (0, (14, 14), [((0, 13), .inl (.ofNat 0, .ofNat 0))]), .inr (0, (220, 220), [((0, 219), .inl (.ofNat 0, .ofNat 0))]), .inr (0, (14, 14), [((0, 13), .inl (.ofNat 0, .ofNat 0))]), .inr (0, (14, 14), [((0, 13), .inl (.ofNat 0, .ofNat 0))])]
def zxT5 : List zTy := [.inr (0, (14, 14), [((0, 13), .inl (.ofNat 0, .ofNat 0))]), .inr (0, (14, 14), [((0, 13), .inl (.ofNat 0, .ofNat 0))]), .inr (0, (220, 220), [((0, 219), .inl (.ofNat 0, .ofNat 0))]), .inr (0, (13, 13), [((0, 12), .inl (.ofNat 0, .ofNat 0))]), .inr (0, (24, 24), [((0, 23), .inl (.ofNat 0, .ofNat 0))]), .inr (0, (12, 12), [((0, 11), .inl (.ofNat 0, .ofNat 0))]), .inr (0, (12, 12), [((0, 11), .inl (.ofNat 0, .ofNat 0))]), .inr (0, (12, 12), [((0, 11), .inl (.ofNat 0, .ofNat 0))]), .inr (0, (12, 12), [((0, 11), .inl (.ofNat 0, .ofNat 0))]), .inr (0, (8, 8), [((0, 7), .inl (.ofNat 0, .ofNat 0))]), .inr (0, (8, 8), [((0, 7), .inl (.ofNat 0, .ofNat 0))]), .inr (0, (8, 8), [((0, 7), .inl (.ofNat 0, .ofNat 0))]), .inr (0, (6912, 6912), [((0, 6911), .inl (.ofNat 0, .ofNat 0))]), .inr (0, (288, 288), [((0, 287), .inl (.ofNat 0, .ofNat 0))]), .inr (0, (24, 24), [((0, 23), .inl (.ofNat 0, .ofNat 0))]), .inr (0, (12, 12), [((0, 11), .inl (.ofNat 0, .ofNat 0))]), .inr (0, (8, 8), [((0, 7), .inl (.ofNat 0, .ofNat 0))]), .inr (0, (28, 28), [((0, 27), .inl (.ofNat 0, .ofNat 0))]), .inr (0, (24, 24), [((0, 23), .inl (.ofNat 0, .ofNat 0))]), .inr (0, (24, 24), [((0, 23), .inl (.ofNat 0, .ofNat 0))])]
def zxT6 : List zTy := [.inr (0, (25000, 25000), [((0, 24999), .inl (.ofNat 0, .ofNat 0))]), .inr (0, (288, 288), [((0, 287), .inl (.ofNat 0, .ofNat 0))]), .inr (0, (288, 288), [((0, 287), .inl (.ofNat 0, .ofNat 0))]), .inr (0, (288, 288), [((0, 287), .inl (.ofNat 0, .ofNat 0))]), .inr (0, (24, 24), [((0, 23), .inl (.ofNat 0, .ofNat 0))]), .inr (0, (12, 12), [((0, 11), .inl (.ofNat 0, .ofNat 0))]), .inr (0, (12, 12), [((0, 11), .inl (.ofNat 0, .ofNat 0))]), .inr (0, (288, 288), [((0, 287), .inl (.ofNat 0, .ofNat 0))]), .inl (12, [.inr (.inl 87), .inr (.inl 88), .inr (.inl 89), .inr (.inl 90), .inl (.ofNat 0, .ofNat 0), .inl (.ofNat 0, .ofNat 0), .inl (.ofNat 0, .ofNat 0), .inl (.ofNat 0, .ofNat 0), .inl (.ofNat 0, .ofNat 0), .inl (.ofNat 0, .ofNat 0), .inl (.ofNat 0, .ofNat 0), .inl (.ofNat 0, .ofNat 0), .inl (.ofNat 0, .ofNat 0), .inl (.ofNat 0, .ofNat 0), .inr (.inl 91), .inr (.inl 92), .inr (.inl 93), .inr (.inl 94), .inr (.inl 95), .inr (.inl 96), .inr (.inl 97), .inr (.inl 98), .inr (.inl 99), .inr (.inl 100), .inr (.inl 101), .inr (.inl 102), .inr (.inl 103), .inl (.ofNat 0, .ofNat 0), .inr (.inl 104), .inl (.ofNat 0, .ofNat 0), .inl (.ofNat 0, .ofNat 0), .inl (.ofNat 0, .ofNat 0), .inl (.ofNat 0, .ofNat 0), .inl (.ofNat 0, .ofNat 0), .inr (.inl 105), .inr (.inl 106), .inr (.inl 107), .inr (.inl 108), .inr (.inl 109), .inr (.inl 110), .inr (.inl 111), .inl (.ofNat 0, .ofNat 0), .inr (.inl 112), .inr (.inl 113), .inr (.inl 114), .inr (.inl 115), .inr (.inl 116), .inr (.inl 117), .inl (.ofNat 0, .ofNat 0), .inr (.inl 118), .inr (.inl 119), .inr (.inl 120), .inr (.inl 121), .inr (.inl 122), .inr (.inl 123), .inl (.ofNat 0, .ofNat 0), .inl (.ofNat 0, .ofNat 0), .inl (.ofNat 0, .ofNat 0), .inl (.ofNat 0, .ofNat 0), .inr (.inl 124), .inr (.inl 125), .inr (.inl 126), .inr (.inl 127), .inl (.ofNat 0, .ofNat 0)]), .inr (0, (200, 200), [((0, 199), .inl (.ofNat 0, .ofNat 0))]), .inr (0, (200, 200), [((0, 199), .inl (.ofNat 0, .ofNat 0))])]
def z_TYs : List zTy := (zxT0 ++ (zxT1 ++ (zxT2 ++ (zxT3 ++ (zxT4 ++ (zxT5 ++ zxT6))))))
def z_PH : List (List Nat) := []
def z_PS : List Nat := []
theorem z_phk : ∀ a ∈ z_PS, z_phok z_TYs z_PH a = true := fun a h => absurd h List.not_mem_nil
end
section
/-! What each constructor answers. -/
def zxg0 : zSig := ([.inl (.ofNat 0, .ofNat 0)], some 1, [], [([(0, .inr (.inl 5))], none, [], [])], false, (5, 120), (1, 12), 0)
def zxg1 : zSig := ([.inl (.ofNat 0, .ofNat 0)], some 1, [], [([(0, .inr (.inl 11))], none, [], [])], false, (5, 120), (1, 12), 0)
def zxg2 : zSig := ([.inl (.ofNat 0, .ofNat 0)], some 1, [], [([(0, .inr (.inl 17))], none, [], [])], false, (5, 120), (1, 12), 0)
def zxg3 : zSig := ([.inl (.ofNat 0, .ofNat 0)], some 2, [], [([(0, .inr (.inl 20))], none, [], [])], false, (2, 18), (1, 12), 0)
def zxg4 : zSig := ([.inl (.ofNat 0, .ofNat 0)], some 2, [], [([(0, .inr (.inl 23))], none, [], [])], false, (2, 18), (1, 12), 0)
def zxg5 : zSig := ([.inl (.ofNat 0, .ofNat 0)], some 3, [], [([(0, .inr (.inl 25))], none, [], [])], false, (1, 220), (1, 12), 0)
def zxg6 : zSig := ([.inl (.ofNat 0, .ofNat 0)], some 4, [], [([(0, .inr (.inl 34))], none, [], [])], false, (8, 509), (3, 100), 0)
def zxg7 : zSig := ([.inl (.ofNat 0, .ofNat 0)], some 4, [], [([(0, .inr (.inl 43))], none, [], [])], false, (8, 509), (3, 100), 0)
def zxg8 : zSig := ([.inl (.ofNat 0, .ofNat 0), .inr (.inl 24), .inr (.inl 43)], some 5, [], [([(0, .inr (.inl 44))], none, [], [])], false, (0, 0), (1, 12), 0)
def zxg9 : zSig := ([.inl (.ofNat 0, .ofNat 0)], some 6, [], [([(0, .inr (.inl 46))], none, [], [])], false, (1, 8), (1, 12), 0)
def zxg10 : zSig := ([.inl (.ofNat 0, .ofNat 0)], some 6, [], [([(0, .inr (.inl 48))], none, [], [])], false, (1, 8), (1, 12), 0)
def zxg11 : zSig := ([.inl (.ofNat 0, .ofNat 0), .inr (.inl 5), .inr (.inl 34)], some 7, [], [([(0, .inr (.inl 52))], none, [], [])], false, (3, 72), (1, 12), 0)
def zxg12 : zSig := ([.inl (.ofNat 0, .ofNat 0), .inr (.inl 5), .inr (.inl 34)], some 7, [], [([(0, .inr (.inl 56))], none, [], [])], false, (3, 72), (1, 12), 0)
def zxg13 : zSig := ([.inl (.ofNat 0, .ofNat 0), .inr (.inl 46), .inr (.inl 49)], some 8, [], [([(0, .inr (.inl 60))], none, [], [])], false, (3, 104), (1, 12), 0)
def zxg14 : zSig := ([.inl (.ofNat 0, .ofNat 0)], some 9, [], [([(0, .inr (.inl 70))], none, [], [])], false, (9, 2232), (1, 12), 0)
def zxg15 : zSig := ([.inl (.ofNat 0, .ofNat 0), .inr (.inl 5)], some 10, [], [([(0, .inr (.inl 76))], none, [], [])], false, (5, 636), (1, 12), 0)
def zxg16 : zSig := ([.inl (.ofNat 0, .ofNat 0)], some 11, [], [([(0, .inr (.inl 84))], none, [], [])], false, (7, 2104), (1, 12), 0)
def zxg17 : zSig := ([.inl (.ofNat 0, .ofNat 0)], some 0, [], [([(0, .inr (.inl 86))], none, [], [])], false, (86, 7299), (4, 120), 0)
def zxg18 : zSig := ([.inl (.ofNat 0, .ofNat 0)], some 12, [], [([(0, .inr (.inl 128))], none, [], [((0, 12, 0, some 131), .inl (.ofNat 4, .ofNat 4)), ((0, 12, 0, some 132), .inl (.ofNat 3, .ofNat 3)), ((0, 12, 0, some 133), .inl (.ofNat 1, .ofNat 1))])], false, (41, 36107), (1, 12), 0)
end
section
/-! Certificates. -/
def zxs0 : List (Nat × zSig) := []
def zxe0 : zCe := ((z_KF8, z_KC8, z_KL8, z_KT8, [], [(12, 0), (20, 1), (28, 2), (36, 3), (44, 4)], [(79, 0, 5, .ofNat 0)], some 1), [], 4000)
theorem zxk0 : z_chk z_TYs z_PH z_cl z_FT z_MT zxs0 [] z_PS zxm1 zxg0 zxe0 = true := by decide +kernel
theorem zxo0 : z_OK z_TB z_cl z_FT z_TYs z_PH z_KX zxm1.1 zxm1.2.1 zxm1.2.2.1 zxm1.2.2.2.1 zxg0 := z_meth (mm := zxm1) (ce := zxe0) (SG := zxs0) (RO := []) (PHS := z_PS) (MT := z_MT) zxp1 (z_ks8 _ (fun _ h => List.mem_cons_of_mem _ h) _ _ _ _ (fun j r h h2 => by cases h; cases h2; rfl)) (fun _ _ => rfl) (fun _ _ => zs_KX_p) z_phk (z_fil _ (fun _ h => absurd h List.not_mem_nil)) zxk0
def zxs1 : List (Nat × zSig) := []
def zxe1 : zCe := ((z_KF8, z_KC8, z_KL8, z_KT8, [], [(12, 6), (20, 7), (28, 8), (36, 9), (44, 10)], [(79, 0, 11, .ofNat 0)], some 1), [], 4000)
theorem zxk1 : z_chk z_TYs z_PH z_cl z_FT z_MT zxs1 [] z_PS zxm1 zxg1 zxe1 = true := by decide +kernel
theorem zxo1 : z_OK z_TB z_cl z_FT z_TYs z_PH z_KX zxm1.1 zxm1.2.1 zxm1.2.2.1 zxm1.2.2.2.1 zxg1 := z_meth (mm := zxm1) (ce := zxe1) (SG := zxs1) (RO := []) (PHS := z_PS) (MT := z_MT) zxp1 (z_ks8 _ (fun _ h => List.mem_cons_of_mem _ h) _ _ _ _ (fun j r h h2 => by cases h; cases h2; rfl)) (fun _ _ => rfl) (fun _ _ => zs_KX_p) z_phk (z_fil _ (fun _ h => absurd h List.not_mem_nil)) zxk1
def zxs2 : List (Nat × zSig) := []
def zxe2 : zCe := ((z_KF8, z_KC8, z_KL8, z_KT8, [], [(12, 12), (20, 13), (28, 14), (36, 15), (44, 16)], [(79, 0, 17, .ofNat 0)], some 1), [], 4000)
theorem zxk2 : z_chk z_TYs z_PH z_cl z_FT z_MT zxs2 [] z_PS zxm1 zxg2 zxe2 = true := by decide +kernel
theorem zxo2 : z_OK z_TB z_cl z_FT z_TYs z_PH z_KX zxm1.1 zxm1.2.1 zxm1.2.2.1 zxm1.2.2.2.1 zxg2 := z_meth (mm := zxm1) (ce := zxe2) (SG := zxs2) (RO := []) (PHS := z_PS) (MT := z_MT) zxp1 (z_ks8 _ (fun _ h => List.mem_cons_of_mem _ h) _ _ _ _ (fun j r h h2 => by cases h; cases h2; rfl)) (fun _ _ => rfl) (fun _ _ => zs_KX_p) z_phk (z_fil _ (fun _ h => absurd h List.not_mem_nil)) zxk2
def zxs3 : List (Nat × zSig) := []
def zxe3 : zCe := ((z_KF7, z_KC7, z_KL7, z_KT7, [], [(7, 18), (20, 19)], [(25, 0, 20, .ofNat 0)], some 2), [], 4000)
theorem zxk3 : z_chk z_TYs z_PH z_cl z_FT z_MT zxs3 [] z_PS zxm2 zxg3 zxe3 = true := by decide +kernel
theorem zxo3 : z_OK z_TB z_cl z_FT z_TYs z_PH z_KX zxm2.1 zxm2.2.1 zxm2.2.2.1 zxm2.2.2.2.1 zxg3 := z_meth (mm := zxm2) (ce := zxe3) (SG := zxs3) (RO := []) (PHS := z_PS) (MT := z_MT) zxp2 (z_ks7 _ (fun _ h => List.mem_cons_of_mem _ h) _ _ _ _ (fun j r h h2 => by cases h; cases h2; rfl)) (fun _ _ => rfl) (fun _ _ => zs_KX_p) z_phk (z_fil _ (fun _ h => absurd h List.not_mem_nil)) zxk3
def zxs4 : List (Nat × zSig) := []
def zxe4 : zCe := ((z_KF7, z_KC7, z_KL7, z_KT7, [], [(7, 21), (20, 22)], [(25, 0, 23, .ofNat 0)], some 2), [], 4000)
theorem zxk4 : z_chk z_TYs z_PH z_cl z_FT z_MT zxs4 [] z_PS zxm2 zxg4 zxe4 = true := by decide +kernel
theorem zxo4 : z_OK z_TB z_cl z_FT z_TYs z_PH z_KX zxm2.1 zxm2.2.1 zxm2.2.2.1 zxm2.2.2.2.1 zxg4 := z_meth (mm := zxm2) (ce := zxe4) (SG := zxs4) (RO := []) (PHS := z_PS) (MT := z_MT) zxp2 (z_ks7 _ (fun _ h => List.mem_cons_of_mem _ h) _ _ _ _ (fun j r h h2 => by cases h; cases h2; rfl)) (fun _ _ => rfl) (fun _ _ => zs_KX_p) z_phk (z_fil _ (fun _ h => absurd h List.not_mem_nil)) zxk4
def zxs5 : List (Nat × zSig) := []
def zxe5 : zCe := ((z_KF10, z_KC10, z_KL10, z_KT10, [], [(8, 24)], [(18, 0, 25, .ofNat 0)], some 3), [], 4000)
theorem zxk5 : z_chk z_TYs z_PH z_cl z_FT z_MT zxs5 [] z_PS zxm3 zxg5 zxe5 = true := by decide +kernel
theorem zxo5 : z_OK z_TB z_cl z_FT z_TYs z_PH z_KX zxm3.1 zxm3.2.1 zxm3.2.2.1 zxm3.2.2.2.1 zxg5 := z_meth (mm := zxm3) (ce := zxe5) (SG := zxs5) (RO := []) (PHS := z_PS) (MT := z_MT) zxp3 (z_ks10 _ (fun _ h => List.mem_cons_of_mem _ h) _ _ _ _ (fun j r h h2 => by cases h; cases h2; rfl)) (fun _ _ => rfl) (fun _ _ => zs_KX_p) z_phk (z_fil _ (fun _ h => absurd h List.not_mem_nil)) zxk5
def zxs6 : List (Nat × zSig) := []
def zxe6 : zCe := ((z_KF2, z_KC2, z_KL2, z_KT2, [], [(8, 129), (17, 130), (30, 28), (38, 29), (46, 30), (54, 31), (90, 32), (98, 33)], [], some 4), [], 4000)
theorem zxf6 : zc_okf z_TYs [(129, 26), (130, 27)] = true := by decide +kernel
theorem zxk6 : zc_chk (zs_hk zxg6 85 13) z_TYs z_PH z_cl z_FT z_MT zxs6 [] z_PS zxm4 zxg6 zxe6 [(129, 26), (130, 27)] 4 34 [] = true := by decide +kernel
theorem zxo6 : z_OK z_TB z_cl z_FT z_TYs z_PH z_KX zxm4.1 zxm4.2.1 zxm4.2.2.1 zxm4.2.2.2.1 zxg6 := zc_OK (nw := []) (k0 := .inl (.ofNat 0, .ofNat 0)) (ci := 4) (tau := 34) (mk := (8, 509)) (rm := (3, 100)) (f := [(129, 26), (130, 27)]) (mm := zxm4) (ce := zxe6) (SG := zxs6) (RO := []) (PHS := z_PS) (MT := z_MT) (hk := (zs_hk zxg6 85 13)) zxp4 (z_ks2 _ (fun _ h => List.mem_cons_of_mem _ h) _ _ _ _ (fun j r h h2 => by cases h; cases h2; rfl)) (fun _ _ => rfl) (fun _ _ => zs_KX_p) z_phk (z_fil _ (fun _ h => absurd h List.not_mem_nil)) (zs_hk_ok (k := 48) (n := 13) (i := 50) (tx := "huimrcknsexyd") (fun _ _ _ _ h => h.1) zs_wt (fun v hv => (List.mem_filter.mp hv).2) (by decide) (List.mem_filter.mpr ⟨List.mem_of_getElem? (i := 254) (by decide +kernel), rfl⟩) (by decide +kernel) (by decide +kernel) ⟨by decide, by decide⟩) rfl zxf6 zxk6
def zxs7 : List (Nat × zSig) := []
def zxe7 : zCe := ((z_KF2, z_KC2, z_KL2, z_KT2, [], [(8, 129), (17, 130), (30, 37), (38, 38), (46, 39), (54, 40), (90, 41), (98, 42)], [], some 4), [], 4000)
theorem zxf7 : zc_okf z_TYs [(129, 35), (130, 36)] = true := by decide +kernel
theorem zxk7 : zc_chk (zs_hk zxg7 85 13) z_TYs z_PH z_cl z_FT z_MT zxs7 [] z_PS zxm4 zxg7 zxe7 [(129, 35), (130, 36)] 4 43 [] = true := by decide +kernel
theorem zxo7 : z_OK z_TB z_cl z_FT z_TYs z_PH z_KX zxm4.1 zxm4.2.1 zxm4.2.2.1 zxm4.2.2.2.1 zxg7 := zc_OK (nw := []) (k0 := .inl (.ofNat 0, .ofNat 0)) (ci := 4) (tau := 43) (mk := (8, 509)) (rm := (3, 100)) (f := [(129, 35), (130, 36)]) (mm := zxm4) (ce := zxe7) (SG := zxs7) (RO := []) (PHS := z_PS) (MT := z_MT) (hk := (zs_hk zxg7 85 13)) zxp4 (z_ks2 _ (fun _ h => List.mem_cons_of_mem _ h) _ _ _ _ (fun j r h h2 => by cases h; cases h2; rfl)) (fun _ _ => rfl) (fun _ _ => zs_KX_p) z_phk (z_fil _ (fun _ h => absurd h List.not_mem_nil)) (zs_hk_ok (k := 48) (n := 13) (i := 50) (tx := "huimrcknsexyd") (fun _ _ _ _ h => h.1) zs_wt (fun v hv => (List.mem_filter.mp hv).2) (by decide) (List.mem_filter.mpr ⟨List.mem_of_getElem? (i := 254) (by decide +kernel), rfl⟩) (by decide +kernel) (by decide +kernel) ⟨by decide, by decide⟩) rfl zxf7 zxk7
def zxs8 : List (Nat × zSig) := []
def zxe8 : zCe := ((z_KF3, z_KC3, z_KL3, z_KT3, [], [], [(29, 0, 44, .ofNat 0)], some 5), [], 4000)
theorem zxk8 : z_chk z_TYs z_PH z_cl z_FT z_MT zxs8 [] z_PS zxm7 zxg8 zxe8 = true := by decide +kernel
theorem zxo8 : z_OK z_TB z_cl z_FT z_TYs z_PH z_KX zxm7.1 zxm7.2.1 zxm7.2.2.1 zxm7.2.2.2.1 zxg8 := z_meth (mm := zxm7) (ce := zxe8) (SG := zxs8) (RO := []) (PHS := z_PS) (MT := z_MT) zxp7 (z_ks3 _ (fun _ h => List.mem_cons_of_mem _ h) _ _ _ _ (fun j r h h2 => by cases h; cases h2; rfl)) (fun _ _ => rfl) (fun _ _ => zs_KX_p) z_phk (z_fil _ (fun _ h => absurd h List.not_mem_nil)) zxk8
def zxs9 : List (Nat × zSig) := []
def zxe9 : zCe := ((z_KF9, z_KC9, z_KL9, z_KT9, [], [(17, 45)], [(22, 0, 46, .ofNat 0)], some 6), [], 4000)
theorem zxk9 : z_chk z_TYs z_PH z_cl z_FT z_MT zxs9 [] z_PS zxm8 zxg9 zxe9 = true := by decide +kernel
theorem zxo9 : z_OK z_TB z_cl z_FT z_TYs z_PH z_KX zxm8.1 zxm8.2.1 zxm8.2.2.1 zxm8.2.2.2.1 zxg9 := z_meth (mm := zxm8) (ce := zxe9) (SG := zxs9) (RO := []) (PHS := z_PS) (MT := z_MT) zxp8 (z_ks9 _ (fun _ h => List.mem_cons_of_mem _ h) _ _ _ _ (fun j r h h2 => by cases h; cases h2; rfl)) (fun _ _ => rfl) (fun _ _ => zs_KX_p) z_phk (z_fil _ (fun _ h => absurd h List.not_mem_nil)) zxk9
def zxs10 : List (Nat × zSig) := []
def zxe10 : zCe := ((z_KF9, z_KC9, z_KL9, z_KT9, [], [(17, 47)], [(22, 0, 48, .ofNat 0)], some 6), [], 4000)
theorem zxk10 : z_chk z_TYs z_PH z_cl z_FT z_MT zxs10 [] z_PS zxm8 zxg10 zxe10 = true := by decide +kernel
theorem zxo10 : z_OK z_TB z_cl z_FT z_TYs z_PH z_KX zxm8.1 zxm8.2.1 zxm8.2.2.1 zxm8.2.2.2.1 zxg10 := z_meth (mm := zxm8) (ce := zxe10) (SG := zxs10) (RO := []) (PHS := z_PS) (MT := z_MT) zxp8 (z_ks9 _ (fun _ h => List.mem_cons_of_mem _ h) _ _ _ _ (fun j r h h2 => by cases h; cases h2; rfl)) (fun _ _ => rfl) (fun _ _ => zs_KX_p) z_phk (z_fil _ (fun _ h => absurd h List.not_mem_nil)) zxk10
def zxs11 : List (Nat × zSig) := []
def zxe11 : zCe := ((z_KF11, z_KC11, z_KL11, z_KT11, [], [(22, 49), (40, 50), (48, 51)], [(63, 0, 52, .ofNat 0)], some 7), [], 4000)
theorem zxk11 : z_chk z_TYs z_PH z_cl z_FT z_MT zxs11 [] z_PS zxm9 zxg11 zxe11 = true := by decide +kernel
theorem zxo11 : z_OK z_TB z_cl z_FT z_TYs z_PH z_KX zxm9.1 zxm9.2.1 zxm9.2.2.1 zxm9.2.2.2.1 zxg11 := z_meth (mm := zxm9) (ce := zxe11) (SG := zxs11) (RO := []) (PHS := z_PS) (MT := z_MT) zxp9 (z_ks11 _ (fun _ h => List.mem_cons_of_mem _ h) _ _ _ _ (fun j r h h2 => by cases h; cases h2; rfl)) (fun _ _ => rfl) (fun _ _ => zs_KX_p) z_phk (z_fil _ (fun _ h => absurd h List.not_mem_nil)) zxk11
def zxs12 : List (Nat × zSig) := []
def zxe12 : zCe := ((z_KF11, z_KC11, z_KL11, z_KT11, [], [(22, 53), (40, 54), (48, 55)], [(63, 0, 56, .ofNat 0)], some 7), [], 4000)
theorem zxk12 : z_chk z_TYs z_PH z_cl z_FT z_MT zxs12 [] z_PS zxm9 zxg12 zxe12 = true := by decide +kernel
theorem zxo12 : z_OK z_TB z_cl z_FT z_TYs z_PH z_KX zxm9.1 zxm9.2.1 zxm9.2.2.1 zxm9.2.2.2.1 zxg12 := z_meth (mm := zxm9) (ce := zxe12) (SG := zxs12) (RO := []) (PHS := z_PS) (MT := z_MT) zxp9 (z_ks11 _ (fun _ h => List.mem_cons_of_mem _ h) _ _ _ _ (fun j r h h2 => by cases h; cases h2; rfl)) (fun _ _ => rfl) (fun _ _ => zs_KX_p) z_phk (z_fil _ (fun _ h => absurd h List.not_mem_nil)) zxk12
def zxs13 : List (Nat × zSig) := []
def zxe13 : zCe := ((z_KF4, z_KC4, z_KL4, z_KT4, [], [(7, 57), (15, 58), (23, 59)], [(48, 0, 60, .ofNat 0)], some 8), [], 4000)
theorem zxk13 : z_chk z_TYs z_PH z_cl z_FT z_MT zxs13 [] z_PS zxm10 zxg13 zxe13 = true := by decide +kernel
theorem zxo13 : z_OK z_TB z_cl z_FT z_TYs z_PH z_KX zxm10.1 zxm10.2.1 zxm10.2.2.1 zxm10.2.2.2.1 zxg13 := z_meth (mm := zxm10) (ce := zxe13) (SG := zxs13) (RO := []) (PHS := z_PS) (MT := z_MT) zxp10 (z_ks4 _ (fun _ h => List.mem_cons_of_mem _ h) _ _ _ _ (fun j r h h2 => by cases h; cases h2; rfl)) (fun _ _ => rfl) (fun _ _ => zs_KX_p) z_phk (z_fil _ (fun _ h => absurd h List.not_mem_nil)) zxk13
def zxs14 : List (Nat × zSig) := []
def zxe14 : zCe := ((z_KF6, z_KC6, z_KL6, z_KT6, [], [(27, 61), (36, 62), (45, 63), (54, 64), (63, 65), (82, 66), (91, 67), (100, 68), (109, 69)], [(114, 0, 70, .ofNat 0)], some 9), [], 4000)
theorem zxk14 : z_chk z_TYs z_PH z_cl z_FT z_MT zxs14 [] z_PS zxm11 zxg14 zxe14 = true := by decide +kernel
theorem zxo14 : z_OK z_TB z_cl z_FT z_TYs z_PH z_KX zxm11.1 zxm11.2.1 zxm11.2.2.1 zxm11.2.2.2.1 zxg14 := z_meth (mm := zxm11) (ce := zxe14) (SG := zxs14) (RO := []) (PHS := z_PS) (MT := z_MT) zxp11 (z_ks6 _ (fun _ h => List.mem_cons_of_mem _ h) _ _ _ _ (fun j r h h2 => by cases h; cases h2; rfl)) (fun _ _ => rfl) (fun _ _ => zs_KX_p) z_phk (z_fil _ (fun _ h => absurd h List.not_mem_nil)) zxk14
def zxs15 : List (Nat × zSig) := []
def zxe15 : zCe := ((z_KF5, z_KC5, z_KL5, z_KT5, [], [(8, 71), (17, 72), (25, 73), (38, 74), (46, 75)], [(56, 0, 76, .ofNat 0)], some 10), [], 4000)
theorem zxk15 : z_chk z_TYs z_PH z_cl z_FT z_MT zxs15 [] z_PS zxm12 zxg15 zxe15 = true := by decide +kernel
theorem zxo15 : z_OK z_TB z_cl z_FT z_TYs z_PH z_KX zxm12.1 zxm12.2.1 zxm12.2.2.1 zxm12.2.2.2.1 zxg15 := z_meth (mm := zxm12) (ce := zxe15) (SG := zxs15) (RO := []) (PHS := z_PS) (MT := z_MT) zxp12 (z_ks5 _ (fun _ h => List.mem_cons_of_mem _ h) _ _ _ _ (fun j r h h2 => by cases h; cases h2; rfl)) (fun _ _ => rfl) (fun _ _ => zs_KX_p) z_phk (z_fil _ (fun _ h => absurd h List.not_mem_nil)) zxk15
def zxs16 : List (Nat × zSig) := []
def zxe16 : zCe := ((z_KF1, z_KC1, z_KL1, z_KT1, [], [(7, 77), (15, 78), (23, 79), (31, 80), (39, 81), (48, 82), (57, 83)], [(62, 0, 84, .ofNat 0)], some 11), [], 4000)
theorem zxk16 : z_chk z_TYs z_PH z_cl z_FT z_MT zxs16 [] z_PS zxm13 zxg16 zxe16 = true := by decide +kernel
theorem zxo16 : z_OK z_TB z_cl z_FT z_TYs z_PH z_KX zxm13.1 zxm13.2.1 zxm13.2.2.1 zxm13.2.2.2.1 zxg16 := z_meth (mm := zxm13) (ce := zxe16) (SG := zxs16) (RO := []) (PHS := z_PS) (MT := z_MT) zxp13 (z_ks1 _ (fun _ h => List.mem_cons_of_mem _ h) _ _ _ _ (fun j r h h2 => by cases h; cases h2; rfl)) (fun _ _ => rfl) (fun _ _ => zs_KX_p) z_phk (z_fil _ (fun _ h => absurd h List.not_mem_nil)) zxk16
def zxs17 : List (Nat × zSig) := [(1, zxg0), (1, zxg1), (1, zxg2), (2, zxg3), (2, zxg4), (3, zxg5), (4, zxg6), (4, zxg7), (7, zxg8), (8, zxg9), (8, zxg10), (9, zxg11), (9, zxg12), (10, zxg13), (11, zxg14), (12, zxg15), (13, zxg16)]
def zxe17 : zCe := ((z_KF0, z_KC0, z_KL0, z_KT0, [(9, 0), (20, 1), (31, 2), (42, 3), (53, 4), (69, 5), (80, 6), (91, 7), (113, 8), (124, 9), (135, 10), (154, 11), (173, 12), (195, 13), (206, 14), (221, 15), (232, 16)], [(242, 85)], [(247, 0, 86, .ofNat 0)], some 0), [], 4000)
theorem zxk17 : z_chk z_TYs z_PH z_cl z_FT z_MT zxs17 [] z_PS zxm0 zxg17 zxe17 = true := by decide +kernel
theorem zxo17 : z_OK z_TB z_cl z_FT z_TYs z_PH z_KX zxm0.1 zxm0.2.1 zxm0.2.2.1 zxm0.2.2.2.1 zxg17 := z_meth (mm := zxm0) (ce := zxe17) (SG := zxs17) (RO := []) (PHS := z_PS) (MT := z_MT) zxp0 (z_ks0 _ (fun _ h => List.mem_cons_of_mem _ h) _ _ _ _ (fun j r h h2 => by cases h; cases h2; rfl)) (fun _ _ => rfl) (fun _ _ => zs_KX_p) z_phk (z_fil _ (List.forall_mem_cons.mpr ⟨z_lnk zxt1 zxo0, List.forall_mem_cons.mpr ⟨z_lnk zxt1 zxo1, List.forall_mem_cons.mpr ⟨z_lnk zxt1 zxo2, List.forall_mem_cons.mpr ⟨z_lnk zxt2 zxo3, List.forall_mem_cons.mpr ⟨z_lnk zxt2 zxo4, List.forall_mem_cons.mpr ⟨z_lnk zxt3 zxo5, List.forall_mem_cons.mpr ⟨z_lnk zxt4 zxo6, List.forall_mem_cons.mpr ⟨z_lnk zxt4 zxo7, List.forall_mem_cons.mpr ⟨z_lnk zxt7 zxo8, List.forall_mem_cons.mpr ⟨z_lnk zxt8 zxo9, List.forall_mem_cons.mpr ⟨z_lnk zxt8 zxo10, List.forall_mem_cons.mpr ⟨z_lnk zxt9 zxo11, List.forall_mem_cons.mpr ⟨z_lnk zxt9 zxo12, List.forall_mem_cons.mpr ⟨z_lnk zxt10 zxo13, List.forall_mem_cons.mpr ⟨z_lnk zxt11 zxo14, List.forall_mem_cons.mpr ⟨z_lnk zxt12 zxo15, List.forall_mem_cons.mpr ⟨z_lnk zxt13 zxo16, fun _ h => absurd h List.not_mem_nil⟩⟩⟩⟩⟩⟩⟩⟩⟩⟩⟩⟩⟩⟩⟩⟩⟩)) zxk17
def zxs18 : List (Nat × zSig) := []
def zxe18 : zCe := ((z_KF13, z_KC13, z_KL13, z_KT13, [], [(8, 87), (17, 88), (26, 89), (35, 90), (44, 91), (53, 92), (61, 93), (69, 94), (77, 95), (85, 96), (94, 97), (102, 98), (110, 99), (118, 100), (126, 101), (135, 102), (143, 103), (151, 104), (159, 105), (167, 106), (175, 107), (183, 108), (191, 109), (199, 110), (207, 111), (216, 112), (225, 113), (233, 114), (241, 115), (249, 116), (257, 117), (265, 118), (273, 119), (282, 120), (291, 121), (300, 122), (309, 123), (317, 124), (325, 125), (333, 126), (342, 127)], [], some 12), [], 4000)
theorem zxf18 : zc_okf z_TYs [] = true := by decide +kernel
theorem zxk18 : zc_chk z_non z_TYs z_PH z_cl z_FT z_MT zxs18 [] z_PS zxm198 zxg18 zxe18 [] 12 128 [((0, 12, 0, some 131), .inl (.ofNat 4, .ofNat 4)), ((0, 12, 0, some 132), .inl (.ofNat 3, .ofNat 3)), ((0, 12, 0, some 133), .inl (.ofNat 1, .ofNat 1))] = true := by decide +kernel
theorem zxo18 : z_OK z_TB z_cl z_FT z_TYs z_PH z_KX zxm198.1 zxm198.2.1 zxm198.2.2.1 zxm198.2.2.2.1 zxg18 := zc_OK (nw := [((0, 12, 0, some 131), .inl (.ofNat 4, .ofNat 4)), ((0, 12, 0, some 132), .inl (.ofNat 3, .ofNat 3)), ((0, 12, 0, some 133), .inl (.ofNat 1, .ofNat 1))]) (k0 := .inl (.ofNat 0, .ofNat 0)) (ci := 12) (tau := 128) (mk := (41, 36107)) (rm := (1, 12)) (f := []) (mm := zxm198) (ce := zxe18) (SG := zxs18) (RO := []) (PHS := z_PS) (MT := z_MT) (hk := z_non) zxp198 (z_ks13 _ (fun _ h => List.mem_cons_of_mem _ h) _ _ _ _ (fun j r h h2 => by cases h; cases h2; rfl)) (fun _ _ => rfl) (fun _ _ => zs_KX_p) z_phk (z_fil _ (fun _ h => absurd h List.not_mem_nil)) z_non_ok rfl zxf18 zxk18
end
section
/-! The law up to its head. -/
def z_sL : List (Nat × zSig) := [(0, zxg17), (198, zxg18)]
def z_eL : zCe := ((z_KF12, z_KC12, z_KL12, z_KT12, [(4, 0), (12, 1)], [], [], none), [], 4000)
def z_nw : List (zLoc × zV) := [((0, 12, 0, some 131), .inl (.ofNat 4, .ofNat 4)), ((0, 12, 0, some 132), .inl (.ofNat 3, .ofNat 3)), ((0, 12, 0, some 133), .inl (.ofNat 1, .ofNat 1))]
theorem z_kS : zy_chk z_TYs z_PH z_cl z_FT z_MT z_sL z_PS room_1 4 600000 7302250 code z_eL 18 86 128 (129, 43489) z_nw ((3072 : Nat) : Int) = true := by decide +kernel
theorem z_kSL (Ts : List Cond) (hTs : ∀ w ∈ z_TB, w ∈ Ts) : z_KS Ts z_TB z_cl z_FT "StarTalesLaw" z_MT z_eL.1 := z_ks12 Ts hTs _ _ _ _ (fun j r h _ => by cases h)
set_option maxRecDepth 100000 in
theorem z_oL : ∀ g ∈ (k_CA z_eL.1).filterMap (fun a => z_sL[a.2]?), ∀ m2, z_MT[g.1]? = some m2 → z_OK z_TB z_cl z_FT z_TYs z_PH z_KX m2.1 m2.2.1 m2.2.2.1 m2.2.2.2.1 g.2 := z_fil _ (List.forall_mem_cons.mpr ⟨z_lnk zxt0 zxo17, List.forall_mem_cons.mpr ⟨z_lnk zxt198 zxo18, fun _ h => absurd h List.not_mem_nil⟩⟩)
end
section
/-! From typed cells to named ones: as many types as cells. -/
theorem zy_pig : ∀ (n : Nat) (w : Nat → Nat), (∀ i, i < n → w i < n) → (∀ i j, i < n → j < n → w i = w j → i = j) → ∀ k, k < n → ∃ i, i < n ∧ w i = k := by
  intro n
  induction n with
  | zero => intro w _ _ k hk; omega
  | succ n ih =>
    intro w hw hi k hk
    have hv := hw n (Nat.lt_succ_self n)
    have inj : ∀ i j, i < n → j < n → (if w i = n then w n else w i) = (if w j = n then w n else w j) → i = j := by
      intro i j h1 h2 h
      by_cases a : w i = n
      · by_cases b : w j = n
        · exact hi i j (by omega) (by omega) (a.trans b.symm)
        · rw [if_pos a, if_neg b] at h
          have := hi n j (by omega) (by omega) h
          omega
      · by_cases b : w j = n
        · rw [if_neg a, if_pos b] at h
          have := hi i n (by omega) (by omega) h
          omega
        · rw [if_neg a, if_neg b] at h
          exact hi i j (by omega) (by omega) h
    have low : ∀ i, i < n → (if w i = n then w n else w i) < n := by
      intro i h1
      have h2 := hw i (by omega)
      by_cases a : w i = n
      · rw [if_pos a]
        have : w n ≠ n := fun e => by
          have := hi i n (by omega) (by omega) (a.trans e.symm)
          omega
        omega
      · rw [if_neg a]; omega
    have sur := ih (fun i => if w i = n then w n else w i) low inj
    by_cases ek : k = n
    · subst ek
      by_cases ev : w k = k
      · exact ⟨k, by omega, ev⟩
      · obtain ⟨i, i1, i2⟩ := sur (w k) (by omega)
        by_cases a : w i = k
        · exact ⟨i, by omega, a⟩
        · have i2 : (if w i = k then w k else w i) = w k := i2
          rw [if_neg a] at i2
          have := hi i k (by omega) (by omega) i2
          omega
    · obtain ⟨i, i1, i2⟩ := sur k (by omega)
      by_cases a : w i = n
      · have i2 : (if w i = n then w n else w i) = k := i2
        rw [if_pos a] at i2
        exact ⟨n, by omega, i2⟩
      · have i2 : (if w i = n then w n else w i) = k := i2
        rw [if_neg a] at i2
        exact ⟨i, by omega, i2⟩
/-- types that are come to: child, parent, field -/
def zy_go (TY : List zTy) : List (Nat × Nat × Nat) → List Nat → Option (List Nat)
  | [], S => some S
  | q :: P, S => cond (S.any (fun t => Nat.beq t q.2.1) && (match TY[q.2.1]? with
    | some (.inl o) => (match o.2[q.2.2]? with
      | some (.inr (.inl u)) => Nat.beq u q.1
      | _ => false)
    | _ => false)) (zy_go TY P (q.1 :: S)) none
section ZYREP
variable {OB : Nat → Nat} {D : va_G} {DA : Nat → ClassId} {cl : List vw_C} {TY : List zTy} {T : zTp} {H : Heap} {sz N : Nat} {y : zNL} {NT : List Nat} {F0 : List zNV}
theorem zy_go_ok (hh : ∀ a t, T a = some t → ∃ ty, TY[t]? = some ty ∧ z_cell OB D DA cl T H a ty) : ∀ {P : List (Nat × Nat × Nat)} {S S2 : List Nat}, zy_go TY P S = some S2 → (∀ t ∈ S, ∃ a, T a = some t) → ∀ t ∈ S2, ∃ a, T a = some t
  | [], S, S2, h, hS => by cases h; exact hS
  | q :: P, S, S2, h, hS => by
    unfold zy_go at h
    obtain ⟨hc, h⟩ := zi_if h
    rw [Bool.and_eq_true] at hc
    obtain ⟨c1, c2⟩ := hc
    obtain ⟨t, ht, ht2⟩ := List.any_eq_true.mp c1
    have e := z_beq ht2
    subst e
    obtain ⟨a, ha⟩ := hS _ ht
    obtain ⟨ty, e1, e2⟩ := hh a _ ha
    rw [e1] at c2
    match ty, e2, c2 with
    | .inl o, ⟨r, r1, r2, V, r3, r4⟩, c2 =>
      have c2 : (match o.2[q.2.2]? with
        | some (.inr (.inl u)) => Nat.beq u q.1
        | _ => false) = true := c2
      split at c2
      · rename_i u hu
        obtain ⟨a2, -, h2⟩ := r4 _ _ hu
        refine zy_go_ok hh h fun t ht => ?_
        rcases List.mem_cons.mp ht with rfl | ht
        · exact ⟨a2, by rw [← z_beq c2]; exact h2⟩
        · exact hS t ht
      · cases c2
theorem zy_inj (hge : ∀ a t, T a = some t → sz ≤ a) (hlt : ∀ a t, T a = some t → a < H.size) (hsz : H.size ≤ sz + N) (hN : ∀ t, t < N → ∃ a, T a = some t) : ∀ a b t, T a = some t → T b = some t → a = b := by
  have hw : ∀ t, ∃ a, t < N → T a = some t := fun t => by
    by_cases h : t < N
    · obtain ⟨a, ha⟩ := hN t h; exact ⟨a, fun _ => ha⟩
    · exact ⟨0, fun h2 => absurd h2 h⟩
  obtain ⟨w, hw⟩ := Classical.axiomOfChoice hw
  have sur := zy_pig N (fun t => w t - sz) (fun i hi => by
    have h1 := hge _ _ (hw i hi)
    have h2 := hlt _ _ (hw i hi)
    show w i - sz < N
    omega) (fun i j hi hj e => by
    have e : w i - sz = w j - sz := e
    have h1 := hge _ _ (hw i hi)
    have h2 := hge _ _ (hw j hj)
    have e2 : w i = w j := by omega
    have h3 := hw i hi
    rw [e2, hw j hj] at h3
    exact (Option.some.inj h3).symm)
  have at_ : ∀ a t, T a = some t → a = w t := fun a t ha => by
    have h1 := hge _ _ ha
    have h2 := hlt _ _ ha
    obtain ⟨i, i1, i2⟩ := sur (a - sz) (by omega)
    have i2 : w i - sz = a - sz := i2
    have h3 := hge _ _ (hw i i1)
    have e : w i = a := by omega
    have h4 := hw i i1
    rw [e, ha] at h4
    cases h4
    exact e.symm
  exact fun a b t ha hb => (at_ a t ha).trans (at_ b t hb).symm
def zy_val (TY : List zTy) (NT : List Nat) (c : zV) (v : zNV) : Bool := match c, v with
  | .inl r, .inl x => z_ile x r.1 && z_ile r.2 x
  | .inl _, .inr k => Nat.ble 1000 k
  | .inr (.inl u), .inr k => Nat.ble 1000 k || (match NT[k]? with
    | some t => Nat.beq t u
    | none => false)
  | _, _ => false
def zy_obj (TY : List zTy) (NT : List Nat) (c ci : Nat) : Option (List zV) := match NT[c]? with
  | some t => (match TY[t]? with
    | some (.inl o) => cond (Nat.beq o.1 ci) (some o.2) none
    | _ => none)
  | none => none
def zy_cov (segs : List ((Nat × Nat) × zV)) (n : Nat) : Bool := segs.any (fun s => Nat.beq s.1.1 0 && Nat.ble n (s.1.2 + 1) && (match s.2 with
  | .inl _ => true
  | _ => false))
def zy_arr (TY : List zTy) (NT : List Nat) (c kd n : Nat) : Bool := match NT[c]? with
  | some t => (match TY[t]? with
    | some (.inr q) => (Nat.beq q.1 kd && (Nat.beq q.2.1.1 n && Nat.beq q.2.1.2 n)) && (match kd with
      | 2 => q.2.2.any (fun s => Nat.beq s.1.1 0 && Nat.ble n (s.1.2 + 1) && (match s.2 with
        | .inr (.inr 0) => true
        | _ => false))
      | _ => zy_cov q.2.2 n)
    | _ => false)
  | none => false
def zy_ok (TY : List zTy) (y : zNL) (NT : List Nat) (F0 : List zNV) : Bool :=
  (Nat.beq NT.length (n_N y) && ((List.range (n_N y)).all (fun a => (List.range (n_N y)).all (fun b => Nat.beq a b || !(Nat.beq (NT.getD a 0) (NT.getD b 0)))))) &&
  ((n_O y).all (fun q => (zy_obj TY NT q.1 q.2).isSome) &&
  ((n_I y).all (fun q => match zy_obj TY NT q.1 q.2.1, zv_l F0 q.2.2.2 with
    | some fl, some v => (match fl[q.2.2.1]? with
      | some c => zy_val TY NT c v
      | none => false)
    | _, _ => false) &&
  ((n_R y).all (fun q => match zy_obj TY NT q.1 q.2.1, NT[q.2.2.2]? with
    | some fl, some t => (match fl[q.2.2.1]? with
      | some (.inr (.inl u)) => Nat.beq u t
      | _ => false)
    | _, _ => false) &&
  (n_A y).all (fun q => zy_arr TY NT q.1 q.2.1 q.2.2.1))))
end ZYREP
end
section
/-! The layout with both laws whole; over it all methods again. -/
abbrev zyE : zNL := (129, [(0, 0), (1, 12), (2, 1), (8, 2), (11, 3), (13, 5), (14, 4), (21, 4), (22, 6), (24, 6), (25, 7), (36, 8), (41, 1), (47, 10), (53, 11), (62, 9), (72, 7), (77, 1), (83, 2)], [(2, 1, 0, 0), (2, 1, 6, 1), (2, 1, 8, 2), (2, 1, 9, 3), (2, 1, 10, 4), (8, 2, 1, 5), (11, 3, 1, 6), (0, 0, 8, 7), (0, 0, 7, 8), (13, 5, 1, 9), (13, 5, 2, 10), (13, 5, 3, 11), (13, 5, 4, 12), (14, 4, 2, 13), (14, 4, 7, 14), (14, 4, 8, 15), (14, 4, 9, 16), (14, 4, 10, 17), (14, 4, 11, 18), (0, 0, 11, 19), (0, 0, 10, 20), (22, 6, 0, 21), (22, 6, 1, 22), (25, 7, 0, 23), (25, 7, 1, 24), (25, 7, 6, 25), (25, 7, 2, 26), (25, 7, 3, 27), (2, 1, 7, 28), (25, 7, 4, 29), (21, 4, 8, 30), (25, 7, 7, 31), (21, 4, 7, 32), (21, 4, 14, 33), (21, 4, 10, 34), (21, 4, 9, 35), (21, 4, 11, 36), (24, 6, 0, 37), (24, 6, 1, 38), (36, 8, 3, 39), (36, 8, 4, 40), (36, 8, 6, 41), (41, 1, 0, 42), (41, 1, 6, 43), (41, 1, 7, 44), (41, 1, 8, 45), (41, 1, 9, 46), (41, 1, 10, 47), (2, 1, 11, 48), (41, 1, 11, 49), (47, 10, 3, 50), (62, 9, 0, 51), (62, 9, 1, 52), (62, 9, 9, 53), (62, 9, 10, 54), (62, 9, 2, 55), (62, 9, 3, 56), (72, 7, 0, 57), (72, 7, 1, 58), (72, 7, 6, 59), (72, 7, 2, 60), (72, 7, 3, 61), (72, 7, 4, 62), (72, 7, 7, 63), (36, 8, 5, 64), (77, 1, 0, 65), (77, 1, 6, 66), (77, 1, 7, 67), (77, 1, 8, 68), (77, 1, 9, 69), (77, 1, 10, 70), (77, 1, 11, 71), (83, 2, 1, 72), (0, 0, 5, 73), (1, 12, 4, 74), (1, 12, 5, 75), (1, 12, 6, 76), (1, 12, 9, 77), (1, 12, 11, 78), (1, 12, 8, 79), (1, 12, 10, 80), (1, 12, 7, 81), (1, 12, 12, 82), (1, 12, 13, 83), (1, 12, 27, 84), (1, 12, 29, 85), (1, 12, 30, 86), (1, 12, 32, 87), (1, 12, 31, 88), (1, 12, 33, 89), (1, 12, 41, 90), (1, 12, 48, 91), (1, 12, 55, 92), (1, 12, 56, 93), (1, 12, 57, 94), (1, 12, 58, 95), (1, 12, 63, 96), (14, 4, 14, 97), (21, 4, 2, 98)], [(0, 0, 0, 2), (2, 1, 1, 3), (2, 1, 2, 4), (2, 1, 3, 5), (2, 1, 4, 6), (2, 1, 5, 7), (0, 0, 3, 8), (8, 2, 2, 9), (8, 2, 0, 10), (0, 0, 6, 11), (11, 3, 0, 12), (0, 0, 9, 13), (14, 4, 0, 15), (14, 4, 1, 16), (14, 4, 3, 17), (14, 4, 4, 18), (14, 4, 5, 19), (14, 4, 6, 20), (13, 5, 0, 12), (22, 6, 2, 23), (0, 0, 12, 25), (25, 7, 8, 26), (21, 4, 12, 27), (21, 4, 3, 28), (21, 4, 5, 29), (21, 4, 6, 30), (21, 4, 0, 31), (21, 4, 13, 32), (21, 4, 1, 33), (25, 7, 5, 34), (25, 7, 9, 35), (0, 0, 14, 36), (36, 8, 0, 37), (24, 6, 2, 38), (36, 8, 1, 39), (36, 8, 2, 40), (0, 0, 2, 41), (41, 1, 1, 42), (41, 1, 2, 43), (41, 1, 3, 44), (41, 1, 4, 45), (41, 1, 5, 46), (0, 0, 16, 47), (47, 10, 0, 48), (47, 10, 1, 49), (47, 10, 4, 50), (47, 10, 5, 51), (47, 10, 6, 2), (47, 10, 2, 52), (0, 0, 17, 53), (53, 11, 0, 54), (53, 11, 1, 55), (53, 11, 2, 56), (53, 11, 3, 57), (53, 11, 4, 58), (21, 4, 4, 59), (53, 11, 5, 60), (53, 11, 6, 61), (0, 0, 15, 62), (62, 9, 12, 63), (62, 9, 14, 64), (62, 9, 13, 65), (62, 9, 4, 66), (62, 9, 5, 67), (62, 9, 6, 68), (62, 9, 7, 69), (62, 9, 11, 70), (62, 9, 8, 71), (0, 0, 13, 72), (72, 7, 8, 73), (72, 7, 5, 74), (72, 7, 9, 75), (0, 0, 18, 76), (0, 0, 1, 77), (77, 1, 1, 78), (77, 1, 2, 79), (77, 1, 3, 80), (77, 1, 4, 81), (77, 1, 5, 82), (0, 0, 4, 83), (83, 2, 0, 84), (83, 2, 2, 85), (1, 12, 0, 86), (1, 12, 3, 87), (1, 12, 16, 88), (1, 12, 17, 89), (1, 12, 18, 90), (1, 12, 15, 91), (1, 12, 14, 92), (1, 12, 19, 93), (1, 12, 20, 94), (1, 12, 21, 95), (1, 12, 22, 96), (1, 12, 23, 97), (1, 12, 24, 98), (1, 12, 26, 99), (1, 12, 25, 100), (1, 12, 28, 101), (1, 12, 36, 102), (1, 12, 37, 103), (1, 12, 34, 104), (1, 12, 35, 105), (1, 12, 38, 106), (1, 12, 39, 107), (1, 12, 40, 108), (1, 12, 44, 109), (1, 12, 43, 110), (1, 12, 42, 111), (1, 12, 45, 112), (1, 12, 46, 113), (1, 12, 47, 114), (1, 12, 49, 115), (1, 12, 50, 116), (1, 12, 51, 117), (1, 12, 1, 118), (1, 12, 52, 119), (1, 12, 54, 120), (1, 12, 53, 121), (1, 12, 59, 122), (1, 12, 60, 123), (1, 12, 61, 124), (1, 12, 62, 125), (1, 12, 2, 126), (14, 4, 12, 127), (14, 4, 13, 128)], [(3, 0, 24, 0), (4, 0, 24, 1), (5, 0, 24, 2), (6, 0, 24, 3), (7, 0, 24, 4), (9, 0, 6, 5), (10, 0, 12, 6), (12, 0, 220, 7), (15, 0, 200, 8), (16, 0, 200, 9), (17, 0, 14, 10), (18, 0, 14, 11), (19, 0, 14, 12), (20, 0, 14, 13), (23, 0, 8, 14), (26, 0, 24, 15), (27, 0, 13, 16), (28, 0, 14, 17), (29, 0, 14, 18), (30, 0, 14, 19), (31, 0, 200, 20), (32, 0, 40, 21), (33, 0, 200, 22), (34, 0, 24, 23), (35, 0, 24, 24), (37, 0, 72, 25), (38, 0, 8, 26), (39, 0, 24, 27), (40, 0, 8, 28), (42, 0, 24, 29), (43, 0, 24, 30), (44, 0, 24, 31), (45, 0, 24, 32), (46, 0, 24, 33), (48, 0, 288, 34), (49, 2, 288, 35), (50, 0, 24, 36), (51, 0, 24, 37), (52, 0, 12, 38), (54, 0, 8, 39), (55, 0, 24, 40), (56, 0, 24, 41), (57, 0, 24, 42), (58, 0, 24, 43), (59, 0, 14, 44), (60, 0, 1000, 45), (61, 0, 1000, 46), (63, 0, 288, 47), (64, 0, 288, 48), (65, 0, 288, 49), (66, 0, 24, 50), (67, 0, 264, 51), (68, 0, 264, 52), (69, 0, 264, 53), (70, 0, 288, 54), (71, 0, 264, 55), (73, 0, 24, 56), (74, 0, 24, 57), (75, 0, 24, 58), (76, 0, 288, 59), (78, 0, 24, 60), (79, 0, 24, 61), (80, 0, 24, 62), (81, 0, 24, 63), (82, 0, 24, 64), (84, 0, 12, 65), (85, 0, 6, 66), (86, 0, 422, 67), (87, 1, 220, 68), (88, 0, 14, 69), (89, 0, 14, 70), (90, 0, 14, 71), (91, 0, 220, 72), (92, 0, 220, 73), (93, 0, 14, 74), (94, 0, 220, 75), (95, 0, 14, 76), (96, 0, 14, 77), (97, 0, 14, 78), (98, 0, 14, 79), (99, 0, 13, 80), (100, 0, 220, 81), (101, 0, 24, 82), (102, 0, 12, 83), (103, 0, 12, 84), (104, 0, 12, 85), (105, 0, 12, 86), (106, 0, 8, 87), (107, 0, 8, 88), (108, 0, 8, 89), (109, 0, 24, 90), (110, 0, 288, 91), (111, 0, 6912, 92), (112, 0, 12, 93), (113, 0, 8, 94), (114, 0, 28, 95), (115, 0, 24, 96), (116, 0, 24, 97), (117, 0, 25000, 98), (118, 0, 422, 99), (119, 0, 288, 100), (120, 0, 288, 101), (121, 0, 288, 102), (122, 0, 24, 103), (123, 0, 12, 104), (124, 0, 12, 105), (125, 0, 288, 106), (126, 0, 422, 107), (127, 0, 13, 108), (128, 0, 40, 109)])
theorem zywE : zv_wf zyE = true := by decide +kernel
theorem zyeE : zv_ek2 zyE = true := by decide +kernel
def zE_Fr (r0 r1 r2 r3 r4 r5 r6 r7 r8 r9 r10 : Nat) (f : Nat → Int) : List zNV := [.inl (f 0), .inl (f 1), .inl (f 2), .inl (f 3), .inl (f 4), .inl (f 5), .inl (f 6), .inr r0, .inr r1, .inl (f 9), .inl (f 10), .inl (f 11), .inr r2, .inl (f 13), .inl (f 14), .inl (f 15), .inl (f 16), .inl (f 17), .inl (f 18), .inr r3, .inr r4, .inl (f 21), .inl (f 22), .inr r5, .inr r6, .inl (f 25), .inl (f 26), .inl (f 27), .inl (f 28), .inl (f 29), .inl (f 30), .inl (f 31), .inl (f 32), .inl (f 33), .inl (f 34), .inl (f 35), .inl (f 36), .inl (f 37), .inl (f 38), .inr r7, .inr r8, .inl (f 41), .inl (f 42), .inl (f 43), .inl (f 44), .inl (f 45), .inl (f 46), .inl (f 47), .inl (f 48), .inl (f 49), .inl (f 50), .inl (f 51), .inl (f 52), .inl (f 53), .inl (f 54), .inl (f 55), .inl (f 56), .inr r9, .inr r10, .inl (f 59), .inl (f 60), .inl (f 61), .inl (f 62), .inl (f 63), .inl (f 64), .inl (f 65), .inl (f 66), .inl (f 67), .inl (f 68), .inl (f 69), .inl (f 70), .inl (f 71), .inl (f 72), .inl (f 73), .inl (f 74), .inl (f 75), .inl (f 76), .inl (f 77), .inl (f 78), .inl (f 79), .inl (f 80), .inl (f 81), .inl (f 82), .inl (f 83), .inl (f 84), .inl (f 85), .inl (f 86), .inl (f 87), .inl (f 88), .inl (f 89), .inl (f 90), .inl (f 91), .inl (f 92), .inl (f 93), .inl (f 94), .inl (f 95), .inl (f 96), .inl (f 97), .inl (f 98)]
def zE_F (f : Nat → Int) : List zNV := zE_Fr 14 21 1000 22 24 1000 1000 1000 1000 1000 1000 f
def zE_G (g : Nat → Int → Int) : List (Int → Int) := [g 0, g 1, g 2, g 3, g 4, g 5, g 6, g 7, g 8, g 9, g 10, g 11, g 12, g 13, g 14, g 15, g 16, g 17, g 18, g 19, g 20, g 21, g 22, g 23, g 24, g 25, g 26, g 27, g 28, g 29, g 30, g 31, g 32, g 33, g 34, g 35, g 36, g 37, g 38, g 39, g 40, g 41, g 42, g 43, g 44, g 45, g 46, g 47, g 48, g 49, g 50, g 51, g 52, g 53, g 54, g 55, g 56, g 57, g 58, g 59, g 60, g 61, g 62, g 63, g 64, g 65, g 66, g 67, g 68, g 69, g 70, g 71, g 72, g 73, g 74, g 75, g 76, g 77, g 78, g 79, g 80, g 81, g 82, g 83, g 84, g 85, g 86, g 87, g 88, g 89, g 90, g 91, g 92, g 93, g 94, g 95, g 96, g 97, g 98, g 99, g 100, g 101, g 102, g 103, g 104, g 105, g 106, g 107, g 108, g 109]
theorem zE_k : (zv_ek zyL zyE [0, 1, 2, 3, 4, 5, 6, 7, 8, 9, 10, 11, 12, 13, 14, 15, 16, 17, 18, 19, 20, 21, 22, 23, 24, 25, 26, 27, 28, 29, 30, 31, 32, 33, 34, 35, 36, 37, 38, 39, 40, 41, 42, 43, 44, 45, 46, 47, 48, 49, 50, 51, 52, 53, 54, 55, 56, 57, 58, 59, 60, 61, 62, 63, 64, 65, 66, 67, 68, 69, 70, 71, 72, 73, 74, 75, 76, 77, 78, 79, 80, 81, 82, 83, 84, 85, 86, 87, 88, 89, 90, 91, 92, 93, 94, 95, 96, 97, 98, 99, 100, 101, 102, 103, 104, 105, 106, 107, 108, 109, 110, 111, 112, 113, 114, 115, 116, 117, 118, 119, 120, 121, 122, 123, 124, 125, 126] [0, 1, 2, 3, 4, 5, 6, 7, 8, 9, 10, 11, 12, 13, 14, 15, 16, 17, 18, 19, 20, 21, 22, 23, 24, 25, 26, 27, 28, 29, 30, 31, 32, 33, 34, 35, 36, 37, 38, 39, 40, 41, 42, 43, 44, 45, 46, 47, 48, 49, 50, 51, 52, 53, 54, 55, 56, 57, 58, 59, 60, 61, 62, 63, 64, 65, 66, 67, 68, 69, 70, 71, 72, 73, 74, 75, 76, 77, 78, 79, 80, 81, 82, 83, 84, 85, 86, 87, 88, 89, 90, 91, 92, 93, 94, 95, 96] [0, 1, 2, 3, 4, 5, 6, 7, 8, 9, 10, 11, 12, 13, 14, 15, 16, 17, 18, 19, 20, 21, 22, 23, 24, 25, 26, 27, 28, 29, 30, 31, 32, 33, 34, 35, 36, 37, 38, 39, 40, 41, 42, 43, 44, 45, 46, 47, 48, 49, 50, 51, 52, 53, 54, 55, 56, 57, 58, 59, 60, 61, 62, 63, 64, 65, 66, 67, 68, 69, 70, 71, 72, 73, 74, 75, 76, 77, 78, 79, 80, 81, 82, 83, 84, 85, 86, 87, 88, 89, 90, 91, 92, 93, 94, 95, 96, 97, 98, 99, 100, 101, 102, 103, 104, 105, 106, 107] && (zv_pn [0, 1, 2, 3, 4, 5, 6, 7, 8, 9, 10, 11, 12, 13, 14, 15, 16, 17, 18, 19, 20, 21, 22, 23, 24, 25, 26, 27, 28, 29, 30, 31, 32, 33, 34, 35, 36, 37, 38, 39, 40, 41, 42, 43, 44, 45, 46, 47, 48, 49, 50, 51, 52, 53, 54, 55, 56, 57, 58, 59, 60, 61, 62, 63, 64, 65, 66, 67, 68, 69, 70, 71, 72, 73, 74, 75, 76, 77, 78, 79, 80, 81, 82, 83, 84, 85, 86, 87, 88, 89, 90, 91, 92, 93, 94, 95, 96] [some 0, some 1, some 2, some 3, some 4, some 5, some 6, some 7, some 8, some 9, some 10, some 11, some 12, some 13, some 14, some 15, some 16, some 17, some 18, some 19, some 20, some 21, some 22, some 23, some 24, some 25, some 26, some 27, some 28, some 29, some 30, some 31, some 32, some 33, some 34, some 35, some 36, some 37, some 38, some 39, some 40, some 41, some 42, some 43, some 44, some 45, some 46, some 47, some 48, some 49, some 50, some 51, some 52, some 53, some 54, some 55, some 56, some 57, some 58, some 59, some 60, some 61, some 62, some 63, some 64, some 65, some 66, some 67, some 68, some 69, some 70, some 71, some 72, some 73, some 74, some 75, some 76, some 77, some 78, some 79, some 80, some 81, some 82, some 83, some 84, some 85, some 86, some 87, some 88, some 89, some 90, some 91, some 92, some 93, some 94, some 95, some 96, none, none] && zv_pn [0, 1, 2, 3, 4, 5, 6, 7, 8, 9, 10, 11, 12, 13, 14, 15, 16, 17, 18, 19, 20, 21, 22, 23, 24, 25, 26, 27, 28, 29, 30, 31, 32, 33, 34, 35, 36, 37, 38, 39, 40, 41, 42, 43, 44, 45, 46, 47, 48, 49, 50, 51, 52, 53, 54, 55, 56, 57, 58, 59, 60, 61, 62, 63, 64, 65, 66, 67, 68, 69, 70, 71, 72, 73, 74, 75, 76, 77, 78, 79, 80, 81, 82, 83, 84, 85, 86, 87, 88, 89, 90, 91, 92, 93, 94, 95, 96, 97, 98, 99, 100, 101, 102, 103, 104, 105, 106, 107] [some 0, some 1, some 2, some 3, some 4, some 5, some 6, some 7, some 8, some 9, some 10, some 11, some 12, some 13, some 14, some 15, some 16, some 17, some 18, some 19, some 20, some 21, some 22, some 23, some 24, some 25, some 26, some 27, some 28, some 29, some 30, some 31, some 32, some 33, some 34, some 35, some 36, some 37, some 38, some 39, some 40, some 41, some 42, some 43, some 44, some 45, some 46, some 47, some 48, some 49, some 50, some 51, some 52, some 53, some 54, some 55, some 56, some 57, some 58, some 59, some 60, some 61, some 62, some 63, some 64, some 65, some 66, some 67, some 68, some 69, some 70, some 71, some 72, some 73, some 74, some 75, some 76, some 77, some 78, some 79, some 80, some 81, some 82, some 83, some 84, some 85, some 86, some 87, some 88, some 89, some 90, some 91, some 92, some 93, some 94, some 95, some 96, some 97, some 98, some 99, some 100, some 101, some 102, some 103, some 104, some 105, some 106, some 107, none, none])) = true := by decide +kernel
theorem zE_up {mm : zM} {rm : Nat × Nat} {va va2 : List zNV} {r : Option Int} {f f' : Nat → Int} {g g' : Nat → Int → Int} (e1 : va.map (zv_rn [0, 1, 2, 3, 4, 5, 6, 7, 8, 9, 10, 11, 12, 13, 14, 15, 16, 17, 18, 19, 20, 21, 22, 23, 24, 25, 26, 27, 28, 29, 30, 31, 32, 33, 34, 35, 36, 37, 38, 39, 40, 41, 42, 43, 44, 45, 46, 47, 48, 49, 50, 51, 52, 53, 54, 55, 56, 57, 58, 59, 60, 61, 62, 63, 64, 65, 66, 67, 68, 69, 70, 71, 72, 73, 74, 75, 76, 77, 78, 79, 80, 81, 82, 83, 84, 85, 86, 87, 88, 89, 90, 91, 92, 93, 94, 95, 96, 97, 98, 99, 100, 101, 102, 103, 104, 105, 106, 107, 108, 109, 110, 111, 112, 113, 114, 115, 116, 117, 118, 119, 120, 121, 122, 123, 124, 125, 126]) = va2) (e97 : f' 97 = f 97) (e98 : f' 98 = f 98) (e108 : g' 108 = g 108) (e109 : g' 109 = g 109) (h : zv_Fn z_TB z_cl z_KX zyL mm rm va (zL_F f) (zL_G g) r (zL_F f') (zL_G g')) : zv_Fn z_TB z_cl z_KX zyE mm rm va2 (zE_F f) (zE_G g) r (zE_F f') (zE_G g') := by
  refine zv_emq (F := zE_F f) (F' := zE_F f') (G := zE_G g) (G' := zE_G g') (ρ := [0, 1, 2, 3, 4, 5, 6, 7, 8, 9, 10, 11, 12, 13, 14, 15, 16, 17, 18, 19, 20, 21, 22, 23, 24, 25, 26, 27, 28, 29, 30, 31, 32, 33, 34, 35, 36, 37, 38, 39, 40, 41, 42, 43, 44, 45, 46, 47, 48, 49, 50, 51, 52, 53, 54, 55, 56, 57, 58, 59, 60, 61, 62, 63, 64, 65, 66, 67, 68, 69, 70, 71, 72, 73, 74, 75, 76, 77, 78, 79, 80, 81, 82, 83, 84, 85, 86, 87, 88, 89, 90, 91, 92, 93, 94, 95, 96, 97, 98, 99, 100, 101, 102, 103, 104, 105, 106, 107, 108, 109, 110, 111, 112, 113, 114, 115, 116, 117, 118, 119, 120, 121, 122, 123, 124, 125, 126]) (φ := [0, 1, 2, 3, 4, 5, 6, 7, 8, 9, 10, 11, 12, 13, 14, 15, 16, 17, 18, 19, 20, 21, 22, 23, 24, 25, 26, 27, 28, 29, 30, 31, 32, 33, 34, 35, 36, 37, 38, 39, 40, 41, 42, 43, 44, 45, 46, 47, 48, 49, 50, 51, 52, 53, 54, 55, 56, 57, 58, 59, 60, 61, 62, 63, 64, 65, 66, 67, 68, 69, 70, 71, 72, 73, 74, 75, 76, 77, 78, 79, 80, 81, 82, 83, 84, 85, 86, 87, 88, 89, 90, 91, 92, 93, 94, 95, 96]) (ψ := [0, 1, 2, 3, 4, 5, 6, 7, 8, 9, 10, 11, 12, 13, 14, 15, 16, 17, 18, 19, 20, 21, 22, 23, 24, 25, 26, 27, 28, 29, 30, 31, 32, 33, 34, 35, 36, 37, 38, 39, 40, 41, 42, 43, 44, 45, 46, 47, 48, 49, 50, 51, 52, 53, 54, 55, 56, 57, 58, 59, 60, 61, 62, 63, 64, 65, 66, 67, 68, 69, 70, 71, 72, 73, 74, 75, 76, 77, 78, 79, 80, 81, 82, 83, 84, 85, 86, 87, 88, 89, 90, 91, 92, 93, 94, 95, 96, 97, 98, 99, 100, 101, 102, 103, 104, 105, 106, 107]) [some 0, some 1, some 2, some 3, some 4, some 5, some 6, some 7, some 8, some 9, some 10, some 11, some 12, some 13, some 14, some 15, some 16, some 17, some 18, some 19, some 20, some 21, some 22, some 23, some 24, some 25, some 26, some 27, some 28, some 29, some 30, some 31, some 32, some 33, some 34, some 35, some 36, some 37, some 38, some 39, some 40, some 41, some 42, some 43, some 44, some 45, some 46, some 47, some 48, some 49, some 50, some 51, some 52, some 53, some 54, some 55, some 56, some 57, some 58, some 59, some 60, some 61, some 62, some 63, some 64, some 65, some 66, some 67, some 68, some 69, some 70, some 71, some 72, some 73, some 74, some 75, some 76, some 77, some 78, some 79, some 80, some 81, some 82, some 83, some 84, some 85, some 86, some 87, some 88, some 89, some 90, some 91, some 92, some 93, some 94, some 95, some 96, none, none] [some 0, some 1, some 2, some 3, some 4, some 5, some 6, some 7, some 8, some 9, some 10, some 11, some 12, some 13, some 14, some 15, some 16, some 17, some 18, some 19, some 20, some 21, some 22, some 23, some 24, some 25, some 26, some 27, some 28, some 29, some 30, some 31, some 32, some 33, some 34, some 35, some 36, some 37, some 38, some 39, some 40, some 41, some 42, some 43, some 44, some 45, some 46, some 47, some 48, some 49, some 50, some 51, some 52, some 53, some 54, some 55, some 56, some 57, some 58, some 59, some 60, some 61, some 62, some 63, some 64, some 65, some 66, some 67, some 68, some 69, some 70, some 71, some 72, some 73, some 74, some 75, some 76, some 77, some 78, some 79, some 80, some 81, some 82, some 83, some 84, some 85, some 86, some 87, some 88, some 89, some 90, some 91, some 92, some 93, some 94, some 95, some 96, some 97, some 98, some 99, some 100, some 101, some 102, some 103, some 104, some 105, some 106, some 107, none, none] zywL zywE zyeE zE_k h ⟨⟨_, rfl, fun _ => rfl⟩, ⟨_, rfl, fun _ => rfl⟩, ⟨_, rfl, fun _ => rfl⟩, ⟨_, rfl, fun _ => rfl⟩, ⟨_, rfl, fun _ => rfl⟩, ⟨_, rfl, fun _ => rfl⟩, ⟨_, rfl, fun _ => rfl⟩, ⟨_, rfl, fun _ => rfl⟩, ⟨_, rfl, fun _ => rfl⟩, ⟨_, rfl, fun _ => rfl⟩, ⟨_, rfl, fun _ => rfl⟩, ⟨_, rfl, fun _ => rfl⟩, ⟨_, rfl, fun (h : zv_is (.inr 1000)) => (Nat.lt_irrefl 1000 h).elim⟩, ⟨_, rfl, fun _ => rfl⟩, ⟨_, rfl, fun _ => rfl⟩, ⟨_, rfl, fun _ => rfl⟩, ⟨_, rfl, fun _ => rfl⟩, ⟨_, rfl, fun _ => rfl⟩, ⟨_, rfl, fun _ => rfl⟩, ⟨_, rfl, fun _ => rfl⟩, ⟨_, rfl, fun _ => rfl⟩, ⟨_, rfl, fun _ => rfl⟩, ⟨_, rfl, fun _ => rfl⟩, ⟨_, rfl, fun (h : zv_is (.inr 1000)) => (Nat.lt_irrefl 1000 h).elim⟩, ⟨_, rfl, fun (h : zv_is (.inr 1000)) => (Nat.lt_irrefl 1000 h).elim⟩, ⟨_, rfl, fun _ => rfl⟩, ⟨_, rfl, fun _ => rfl⟩, ⟨_, rfl, fun _ => rfl⟩, ⟨_, rfl, fun _ => rfl⟩, ⟨_, rfl, fun _ => rfl⟩, ⟨_, rfl, fun _ => rfl⟩, ⟨_, rfl, fun _ => rfl⟩, ⟨_, rfl, fun _ => rfl⟩, ⟨_, rfl, fun _ => rfl⟩, ⟨_, rfl, fun _ => rfl⟩, ⟨_, rfl, fun _ => rfl⟩, ⟨_, rfl, fun _ => rfl⟩, ⟨_, rfl, fun _ => rfl⟩, ⟨_, rfl, fun _ => rfl⟩, ⟨_, rfl, fun (h : zv_is (.inr 1000)) => (Nat.lt_irrefl 1000 h).elim⟩, ⟨_, rfl, fun (h : zv_is (.inr 1000)) => (Nat.lt_irrefl 1000 h).elim⟩, ⟨_, rfl, fun _ => rfl⟩, ⟨_, rfl, fun _ => rfl⟩, ⟨_, rfl, fun _ => rfl⟩, ⟨_, rfl, fun _ => rfl⟩, ⟨_, rfl, fun _ => rfl⟩, ⟨_, rfl, fun _ => rfl⟩, ⟨_, rfl, fun _ => rfl⟩, ⟨_, rfl, fun _ => rfl⟩, ⟨_, rfl, fun _ => rfl⟩, ⟨_, rfl, fun _ => rfl⟩, ⟨_, rfl, fun _ => rfl⟩, ⟨_, rfl, fun _ => rfl⟩, ⟨_, rfl, fun _ => rfl⟩, ⟨_, rfl, fun _ => rfl⟩, ⟨_, rfl, fun _ => rfl⟩, ⟨_, rfl, fun _ => rfl⟩, ⟨_, rfl, fun (h : zv_is (.inr 1000)) => (Nat.lt_irrefl 1000 h).elim⟩, ⟨_, rfl, fun (h : zv_is (.inr 1000)) => (Nat.lt_irrefl 1000 h).elim⟩, ⟨_, rfl, fun _ => rfl⟩, ⟨_, rfl, fun _ => rfl⟩, ⟨_, rfl, fun _ => rfl⟩, ⟨_, rfl, fun _ => rfl⟩, ⟨_, rfl, fun _ => rfl⟩, ⟨_, rfl, fun _ => rfl⟩, ⟨_, rfl, fun _ => rfl⟩, ⟨_, rfl, fun _ => rfl⟩, ⟨_, rfl, fun _ => rfl⟩, ⟨_, rfl, fun _ => rfl⟩, ⟨_, rfl, fun _ => rfl⟩, ⟨_, rfl, fun _ => rfl⟩, ⟨_, rfl, fun _ => rfl⟩, ⟨_, rfl, fun _ => rfl⟩, ⟨_, rfl, fun _ => rfl⟩, ⟨_, rfl, fun _ => rfl⟩, ⟨_, rfl, fun _ => rfl⟩, ⟨_, rfl, fun _ => rfl⟩, ⟨_, rfl, fun _ => rfl⟩, ⟨_, rfl, fun _ => rfl⟩, ⟨_, rfl, fun _ => rfl⟩, ⟨_, rfl, fun _ => rfl⟩, ⟨_, rfl, fun _ => rfl⟩, ⟨_, rfl, fun _ => rfl⟩, ⟨_, rfl, fun _ => rfl⟩, ⟨_, rfl, fun _ => rfl⟩, ⟨_, rfl, fun _ => rfl⟩, ⟨_, rfl, fun _ => rfl⟩, ⟨_, rfl, fun _ => rfl⟩, ⟨_, rfl, fun _ => rfl⟩, ⟨_, rfl, fun _ => rfl⟩, ⟨_, rfl, fun _ => rfl⟩, ⟨_, rfl, fun _ => rfl⟩, ⟨_, rfl, fun _ => rfl⟩, ⟨_, rfl, fun _ => rfl⟩, ⟨_, rfl, fun _ => rfl⟩, ⟨_, rfl, fun _ => rfl⟩, ⟨_, rfl, fun _ => rfl⟩, trivial⟩ ⟨rfl, rfl, rfl, rfl, rfl, rfl, rfl, rfl, rfl, rfl, rfl, rfl, rfl, rfl, rfl, rfl, rfl, rfl, rfl, rfl, rfl, rfl, rfl, rfl, rfl, rfl, rfl, rfl, rfl, rfl, rfl, rfl, rfl, rfl, rfl, rfl, rfl, rfl, rfl, rfl, rfl, rfl, rfl, rfl, rfl, rfl, rfl, rfl, rfl, rfl, rfl, rfl, rfl, rfl, rfl, rfl, rfl, rfl, rfl, rfl, rfl, rfl, rfl, rfl, rfl, rfl, rfl, rfl, rfl, rfl, rfl, rfl, rfl, rfl, rfl, rfl, rfl, rfl, rfl, rfl, rfl, rfl, rfl, rfl, rfl, rfl, rfl, rfl, rfl, rfl, rfl, rfl, rfl, rfl, rfl, rfl, rfl, rfl, rfl, rfl, rfl, rfl, rfl, rfl, rfl, rfl, rfl, rfl, trivial⟩ rfl rfl rfl rfl e1 ?_ ?_
  · show zv_mkF _ (zL_F f') _ (zE_F f) = zE_Fr 14 21 1000 22 24 1000 1000 1000 1000 1000 1000 f'
    unfold zE_Fr
    rw [e97, e98]
    rfl
  · show zv_mkG (zL_G g') _ (zE_G g) = zE_G g'
    unfold zE_G
    rw [e108, e109]
    rfl
end
section
/-! From typed cells to named ones: the layout. -/
def zy_rd (H : Heap) (a : Nat) (i : Int) : Int := match H[a]? with
  | some ce => (match ce.slots[i.toNat]? with
    | some (.int x) => x.toInt
    | some (.long x) => (x.toBitVec.toNat : Int)
    | _ => 0)
  | none => 0
theorem zy_rd_at {H : Heap} {a n : Nat} {cA : ClassId} {f : Nat → Value} (h : H[a]? = some (arrV cA n f)) {j : Nat} (hj : j < n) : zy_rd H a (j : Int) = match f j with
    | .int x => x.toInt
    | .long x => (x.toBitVec.toNat : Int)
    | _ => 0 := by
  unfold zy_rd
  rw [h, Int.toNat_natCast]
  show (match (arrV cA n f).slots[j]? with
    | some (.int x) => x.toInt
    | some (.long x) => (x.toBitVec.toNat : Int)
    | _ => 0) = _
  rw [arrV_read _ _ hj]
  cases f j <;> rfl
section ZYREP2
variable {OB : Nat → Nat} {D : va_G} {DA : Nat → ClassId} {cl : List vw_C} {TY : List zTy} {T : zTp} {H : Heap} {sz N : Nat} {y : zNL} {NT : List Nat} {F0 : List zNV}
theorem zy_obj_ok {c ci : Nat} {fl : List zV} (h : zy_obj TY NT c ci = some fl) : ∃ t o, NT[c]? = some t ∧ TY[t]? = some (.inl o) ∧ o.1 = ci ∧ o.2 = fl := by
  unfold zy_obj at h
  split at h
  · rename_i t ht
    split at h
    · rename_i o ho
      obtain ⟨h1, h2⟩ := zi_if h
      exact ⟨t, o, ht, ho, z_beq h1, Option.some.inj h2⟩
    · cases h
  · cases h
theorem zy_arr_ok {c kd n : Nat} (h : zy_arr TY NT c kd n = true) : ∃ t q, NT[c]? = some t ∧ TY[t]? = some (.inr q) ∧ q.1 = kd ∧ q.2.1.1 = n ∧ q.2.1.2 = n ∧ (kd = 2 → ∃ s ∈ q.2.2, s.1.1 = 0 ∧ n ≤ s.1.2 + 1 ∧ s.2 = .inr (.inr 0)) ∧ (kd ≠ 2 → ∃ s ∈ q.2.2, s.1.1 = 0 ∧ n ≤ s.1.2 + 1 ∧ ∃ r, s.2 = .inl r) := by
  unfold zy_arr at h
  split at h
  · rename_i t ht
    split at h
    · rename_i q hq
      simp only [Bool.and_eq_true] at h
      obtain ⟨⟨h1, h2, h3⟩, h4⟩ := h
      refine ⟨t, q, ht, hq, z_beq h1, z_beq h2, z_beq h3, fun e => ?_, fun e => ?_⟩
      · subst e
        obtain ⟨s, s1, s2⟩ := List.any_eq_true.mp h4
        simp only [Bool.and_eq_true] at s2
        obtain ⟨⟨s2, s3⟩, s4⟩ := s2
        refine ⟨s, s1, z_beq s2, Nat.le_of_ble_eq_true s3, ?_⟩
        split at s4
        · rename_i e; exact e
        · cases s4
      · split at h4
        · exact absurd rfl e
        · unfold zy_cov at h4
          obtain ⟨s, s1, s2⟩ := List.any_eq_true.mp h4
          simp only [Bool.and_eq_true] at s2
          obtain ⟨⟨s2, s3⟩, s4⟩ := s2
          refine ⟨s, s1, z_beq s2, Nat.le_of_ble_eq_true s3, ?_⟩
          split at s4
          · rename_i r e; exact ⟨r, e⟩
          · cases s4
    · cases h
  · cases h
theorem zy_rep_ok (hk : zy_ok TY y NT F0 = true) (h900 : n_N y ≤ 900) (hh : ∀ a t, T a = some t → ∃ ty, TY[t]? = some ty ∧ z_cell OB D DA cl T H a ty) (hge : ∀ a t, T a = some t → sz ≤ a) (hinj : ∀ a b t, T a = some t → T b = some t → a = b) (hall : ∀ t ∈ NT, ∃ a, T a = some t) :
    ∃ A : Nat → Nat, (∀ a b, a < n_N y → b < n_N y → A a = A b → a = b) ∧ (∀ a, a < n_N y → sz ≤ A a) ∧ (∀ k, A (900 + k) = OB k) ∧ (∀ c t : Nat, NT[c]? = some t → T (A c) = some t) ∧
      (∀ G, (∀ q ∈ n_A y, zv_l G q.2.2.2 = some (zy_rd H (A q.1))) → zv_rep D DA cl y A F0 G H) ∧
      ∀ (c t : Nat) q s r, NT[c]? = some t → TY[t]? = some (.inr q) → s ∈ q.2.2 → s.2 = .inl r → ∀ i : Nat, i < q.2.1.1 → s.1.1 ≤ i → i ≤ s.1.2 → r.1 ≤ zy_rd H (A c) i ∧ zy_rd H (A c) i ≤ r.2 := by
  unfold zy_ok at hk
  simp only [Bool.and_eq_true] at hk
  obtain ⟨⟨k1, k2⟩, k3, k4, k5, k6⟩ := hk
  have hlen := z_beq k1
  have hA : ∀ c : Nat, ∃ a : Nat, ∀ t, NT[c]? = some t → T a = some t := fun c => by
    cases h : NT[c]? with
    | none => exact ⟨0, fun t ht => by cases ht⟩
    | some t =>
      obtain ⟨a, ha⟩ := hall t (List.mem_of_getElem? h)
      exact ⟨a, fun t2 h2 => by cases h2; exact ha⟩
  obtain ⟨A0, hA0⟩ := Classical.axiomOfChoice hA
  have nt : ∀ c : Nat, c < n_N y → ∃ t, NT[c]? = some t := fun c hc => ⟨_, List.getElem?_eq_getElem (by omega)⟩
  have hN : ∀ c t : Nat, NT[c]? = some t → c < n_N y := fun c t h => by
    have := (List.getElem?_eq_some_iff.mp h).1
    omega
  have hAt : ∀ c t : Nat, NT[c]? = some t → T (if c < 900 then A0 c else OB (c - 900)) = some t := fun c t h => by
    have := hN c t h
    rw [if_pos (by omega)]
    exact hA0 c t h
  refine ⟨fun c => if c < 900 then A0 c else OB (c - 900), fun a b ha hb e => ?_, fun a ha => ?_, fun k => ?_, hAt, fun G hG => ?_, fun c t q s r hc hq hs hr i hi1 hi2 hi3 => ?_⟩
  · obtain ⟨t, ht⟩ := nt a ha
    obtain ⟨u, hu⟩ := nt b hb
    have e : (if a < 900 then A0 a else OB (a - 900)) = (if b < 900 then A0 b else OB (b - 900)) := e
    have h1 := hAt a t ht
    have h2 := hAt b u hu
    rw [e, h2] at h1
    cases h1
    have h3 := List.all_eq_true.mp (List.all_eq_true.mp k2 a (List.mem_range.mpr ha)) b (List.mem_range.mpr hb)
    rw [Bool.or_eq_true] at h3
    rcases h3 with h3 | h3
    · exact z_beq h3
    · rw [List.getD_eq_getElem?_getD, List.getD_eq_getElem?_getD, ht, hu] at h3
      have : Nat.beq t t = true := Nat.beq_refl t
      simp [this] at h3
  · obtain ⟨t, ht⟩ := nt a ha
    exact hge _ t (hAt a t ht)
  · show (if 900 + k < 900 then A0 (900 + k) else OB (900 + k - 900)) = OB k
    rw [if_neg (by omega), Nat.add_sub_cancel_left]
  · have obj : ∀ {c ci : Nat} {fl : List zV}, zy_obj TY NT c ci = some fl → ∃ r V, cl[ci]? = some r ∧ fl.length = r.2.2 ∧ t_OB (if c < 900 then A0 c else OB (c - 900)) (D.1 ci) r.2.2 (D.2 ci) H V ∧ ∀ k c, fl[k]? = some c → z_v OB T c (V k) := fun h => by
      obtain ⟨t, o, h1, h2, h3, h4⟩ := zy_obj_ok h
      obtain ⟨ty, e1, e2⟩ := hh _ t (hAt _ t h1)
      rw [h2] at e1
      cases e1
      obtain ⟨r, r1, r2, V, r3, r4⟩ := e2
      rw [h3] at r1 r3
      rw [h4] at r2 r4
      exact ⟨r, V, r1, r2, r3, r4⟩
    refine ⟨fun q hq => ?_, fun q hq => ?_, fun q hq => ?_, fun q hq => ?_⟩
    · have h1 := List.all_eq_true.mp k3 q hq
      obtain ⟨fl, h2⟩ := Option.isSome_iff_exists.mp h1
      obtain ⟨r, V, r1, r2, r3, r4⟩ := obj h2
      exact ⟨r, V, r1, r3⟩
    · have h1 := List.all_eq_true.mp k4 q hq
      split at h1
      · rename_i fl v h2 h3
        split at h1
        · rename_i c hc
          obtain ⟨r, V, r1, r2, r3, r4⟩ := obj h2
          have hkl : q.2.2.1 < r.2.2 := by rw [← r2]; exact (List.getElem?_eq_some_iff.mp hc).1
          have hv := r4 _ _ hc
          obtain ⟨cell, s1, s2, s3, s4⟩ := r3
          refine ⟨r, V q.2.2.1, v, r1, hkl, ⟨cell, s1, s3, s4 _ hkl⟩, h3, fun his => ?_⟩
          unfold zy_val at h1
          split at h1
          · rename_i rr x
            rw [Bool.and_eq_true] at h1
            obtain ⟨x1, e, e2⟩ := hv
            have a1 := z_ile_ok h1.1
            have a2 := z_ile_ok h1.2
            exact ⟨x1, e, by have := e2.1; have := e2.2; omega⟩
          · rename_i rr k
            have h5 : k < 1000 := his
            have := Nat.le_of_ble_eq_true h1
            omega
          · rename_i u k
            have h5 : k < 1000 := his
            rw [Bool.or_eq_true] at h1
            rcases h1 with h1 | h1
            · have := Nat.le_of_ble_eq_true h1
              omega
            · split at h1
              · rename_i t ht
                obtain ⟨a, e, e2⟩ := hv
                have h6 := hinj _ _ _ e2 (by rw [← z_beq h1]; exact hAt k t ht)
                rw [e, h6]
                exact zv_w_mk (c := k) (A := fun c => if c < 900 then A0 c else OB (c - 900)) (by omega)
              · cases h1
          · cases h1
        · cases h1
      · cases h1
    · have h1 := List.all_eq_true.mp k5 q hq
      split at h1
      · rename_i fl t h2 h3
        split at h1
        · rename_i u hc
          obtain ⟨r, V, r1, r2, r3, r4⟩ := obj h2
          have hkl : q.2.2.1 < r.2.2 := by rw [← r2]; exact (List.getElem?_eq_some_iff.mp hc).1
          obtain ⟨a, e, e2⟩ := r4 _ _ hc
          obtain ⟨cell, s1, s2, s3, s4⟩ := r3
          refine ⟨r, r1, hkl, ⟨cell, s1, s3, ?_⟩⟩
          have h6 := hinj _ _ _ e2 (by rw [z_beq h1]; exact hAt q.2.2.2 t h3)
          rw [s4 _ hkl, e, h6]
        · cases h1
      · cases h1
    · obtain ⟨t, qq, h1, h2, h3, h4, h5, h6, h7⟩ := zy_arr_ok (List.all_eq_true.mp k6 q hq)
      obtain ⟨ty, e1, e2⟩ := hh _ t (hAt _ t h1)
      rw [h2] at e1
      cases e1
      obtain ⟨n, f, f1, f2, f3, -, f4⟩ := e2
      have en : n = q.2.2.1 := by omega
      subst en
      rw [h3] at f1
      refine ⟨f, _, f1, hG q hq, fun j hj => ?_⟩
      have hrd := zy_rd_at f1 hj
      by_cases e2 : q.2.1 = 2
      · obtain ⟨s, s1, s2, s3, s4⟩ := h6 e2
        have hv := f4 s s1 j hj (by omega) (by omega)
        rw [s4] at hv
        obtain ⟨x, hx⟩ := hv
        rw [e2]
        show f j = .long (Int64.ofNat (zy_rd H _ (j : Int)).toNat)
        rw [hrd, hx]
        show Value.long x = .long (Int64.ofNat (x.toBitVec.toNat : Int).toNat)
        rw [Int.toNat_natCast, zi_l64]
      · obtain ⟨s, s1, s2, s3, rr, s4⟩ := h7 e2
        have hv := f4 s s1 j hj (by omega) (by omega)
        rw [s4] at hv
        obtain ⟨x, hx, -⟩ := hv
        have : zv_e q.2.1 (f j) (zy_rd H (if q.1 < 900 then A0 q.1 else OB (q.1 - 900)) (j : Int)) = ∃ y : Int32, f j = .int y ∧ y.toInt = zy_rd H (if q.1 < 900 then A0 q.1 else OB (q.1 - 900)) (j : Int) := by
          unfold zv_e
          split
          · rename_i h; exact absurd h e2
          · rfl
        rw [this]
        exact ⟨x, hx, by rw [hrd, hx]⟩
  · obtain ⟨ty, e1, e2⟩ := hh _ t (hAt c t hc)
    rw [hq] at e1
    cases e1
    obtain ⟨n, f, f1, f2, f3, -, f4⟩ := e2
    have hv := f4 s hs i (by omega) hi2 hi3
    rw [hr] at hv
    obtain ⟨x, hx, hx2⟩ := hv
    have hrd := zy_rd_at f1 (show i < n by omega)
    rw [hx] at hrd
    have hrd : zy_rd H (if c < 900 then A0 c else OB (c - 900)) (i : Int) = x.toInt := hrd
    show r.1 ≤ zy_rd H (if c < 900 then A0 c else OB (c - 900)) (i : Int) ∧ zy_rd H (if c < 900 then A0 c else OB (c - 900)) (i : Int) ≤ r.2
    rw [hrd]
    exact hx2
end ZYREP2
end
section
/-! The state at the law's head. -/
def y0_NT : List Nat := [86, 128, 5, 0, 1, 2, 3, 4, 20, 19, 18, 25, 24, 44, 43, 35, 36, 37, 38, 39, 40, 34, 48, 47, 46, 52, 50, 32, 28, 30, 31, 26, 33, 27, 49, 51, 60, 57, 45, 58, 59, 17, 12, 13, 14, 15, 16, 76, 71, 72, 74, 75, 73, 84, 77, 78, 79, 80, 81, 29, 82, 83, 70, 67, 69, 68, 61, 62, 63, 64, 66, 65, 56, 54, 53, 55, 85, 11, 6, 7, 8, 9, 10, 23, 21, 22, 87, 90, 93, 94, 95, 92, 91, 96, 97, 98, 99, 100, 101, 103, 102, 104, 107, 108, 105, 106, 109, 110, 111, 114, 113, 112, 115, 116, 117, 118, 119, 120, 88, 121, 123, 122, 124, 125, 126, 127, 89, 41, 42]
def y0_FV : List Int := [0, 0, 0, 4, 3, 0, 0, 0, 0, 0, 0, 0, 0, 0, 0, 0, 0, 0, 0, 0, 0, 0, 0, 0, 0, 0, 0, 0, 0, 0, 0, 0, 0, 0, 0, 0, 0, 0, 0, 0, 0, 0, 0, 0, 0, 0, 4, 3, 1, 1, 0, 0, (-1), 0, (-1), 0, (-1), 0, 0, 0, 0, 0, 0, 0, (-1), 0, 0, 0, 0, 4, 3, 1, 0, 0, 0, 0, 0, 0, 0, 0, 0, 0, 0, 0, 0, 0, 0, 0, 0, 0, 0, 0, 0, 0, 0, 0, 0, 0, 0]
def y0_f0 (j : Nat) : Int := y0_FV.getD j 0
def y0_P : List (Nat × Nat × Nat) := [(5, 86, 0), (11, 86, 1), (17, 86, 2), (20, 86, 3), (23, 86, 4), (25, 86, 6), (34, 86, 7), (43, 86, 8), (44, 86, 9), (46, 86, 10), (48, 86, 11), (52, 86, 12), (56, 86, 13), (60, 86, 14), (70, 86, 15), (76, 86, 16), (84, 86, 17), (85, 86, 18), (87, 128, 0), (88, 128, 1), (89, 128, 2), (90, 128, 3), (91, 128, 14), (92, 128, 15), (93, 128, 16), (94, 128, 17), (95, 128, 18), (96, 128, 19), (97, 128, 20), (98, 128, 21), (99, 128, 22), (100, 128, 23), (101, 128, 24), (102, 128, 25), (103, 128, 26), (104, 128, 28), (105, 128, 34), (106, 128, 35), (107, 128, 36), (108, 128, 37), (109, 128, 38), (110, 128, 39), (111, 128, 40), (112, 128, 42), (113, 128, 43), (114, 128, 44), (115, 128, 45), (116, 128, 46), (117, 128, 47), (118, 128, 49), (119, 128, 50), (120, 128, 51), (121, 128, 52), (122, 128, 53), (123, 128, 54), (124, 128, 59), (125, 128, 60), (126, 128, 61), (127, 128, 62), (0, 5, 1), (1, 5, 2), (2, 5, 3), (3, 5, 4), (4, 5, 5), (6, 11, 1), (7, 11, 2), (8, 11, 3), (9, 11, 4), (10, 11, 5), (12, 17, 1), (13, 17, 2), (14, 17, 3), (15, 17, 4), (16, 17, 5), (18, 20, 0), (19, 20, 2), (21, 23, 0), (22, 23, 2), (24, 25, 0), (26, 34, 0), (27, 34, 1), (28, 34, 3), (29, 34, 4), (30, 34, 5), (31, 34, 6), (32, 34, 12), (33, 34, 13), (35, 43, 0), (36, 43, 1), (37, 43, 3), (38, 43, 4), (39, 43, 5), (40, 43, 6), (41, 43, 12), (42, 43, 13), (45, 46, 2), (47, 48, 2), (49, 52, 5), (50, 52, 8), (51, 52, 9), (53, 56, 5), (54, 56, 8), (55, 56, 9), (57, 60, 0), (58, 60, 1), (59, 60, 2), (61, 70, 4), (62, 70, 5), (63, 70, 6), (64, 70, 7), (65, 70, 8), (66, 70, 11), (67, 70, 12), (68, 70, 13), (69, 70, 14), (71, 76, 0), (72, 76, 1), (73, 76, 2), (74, 76, 4), (75, 76, 5), (77, 84, 0), (78, 84, 1), (79, 84, 2), (80, 84, 3), (81, 84, 4), (82, 84, 5), (83, 84, 6)]
theorem y0_ok : zy_ok z_TYs zyE y0_NT (zE_F y0_f0) = true := by decide +kernel
def y0_AN : List Nat := [3, 4, 5, 6, 7, 9, 10, 12, 15, 16, 17, 18, 19, 20, 23, 26, 27, 28, 29, 30, 31, 32, 33, 34, 35, 37, 38, 39, 40, 42, 43, 44, 45, 46, 48, 49, 50, 51, 52, 54, 55, 56, 57, 58, 59, 60, 61, 63, 64, 65, 66, 67, 68, 69, 70, 71, 73, 74, 75, 76, 78, 79, 80, 81, 82, 84, 85, 86, 87, 88, 89, 90, 91, 92, 93, 94, 95, 96, 97, 98, 99, 100, 101, 102, 103, 104, 105, 106, 107, 108, 109, 110, 111, 112, 113, 114, 115, 116, 117, 118, 119, 120, 121, 122, 123, 124, 125, 126, 127, 128]
theorem y0_AN_ok : (n_A zyE).all (fun q => Nat.blt q.2.2.2 110 && Nat.beq (y0_AN.getD q.2.2.2 0) q.1) = true := by decide +kernel
/-- arrays of zeros: place, name, length -/
def y0_Z : List (Nat × Nat × Nat) := [(0, 3, 24), (1, 4, 24), (2, 5, 24), (3, 6, 24), (4, 7, 24), (5, 9, 6), (6, 10, 12), (7, 12, 220), (8, 15, 200), (9, 16, 200), (10, 17, 14), (11, 18, 14), (12, 19, 14), (13, 20, 14), (14, 23, 8), (15, 26, 24), (16, 27, 13), (17, 28, 14), (18, 29, 14), (19, 30, 14), (20, 31, 200), (21, 32, 40), (22, 33, 200), (23, 34, 24), (24, 35, 24), (25, 37, 72), (26, 38, 8), (27, 39, 24), (28, 40, 8), (29, 42, 24), (30, 43, 24), (31, 44, 24), (32, 45, 24), (33, 46, 24), (34, 48, 288), (36, 50, 24), (37, 51, 24), (38, 52, 12), (39, 54, 8), (40, 55, 24), (41, 56, 24), (42, 57, 24), (43, 58, 24), (44, 59, 14), (45, 60, 1000), (46, 61, 1000), (47, 63, 288), (48, 64, 288), (49, 65, 288), (50, 66, 24), (51, 67, 264), (52, 68, 264), (53, 69, 264), (54, 70, 288), (55, 71, 264), (56, 73, 24), (57, 74, 24), (58, 75, 24), (59, 76, 288), (60, 78, 24), (61, 79, 24), (62, 80, 24), (63, 81, 24), (64, 82, 24), (65, 84, 12), (66, 85, 6), (68, 87, 220), (69, 88, 14), (70, 89, 14), (71, 90, 14), (72, 91, 220), (73, 92, 220), (74, 93, 14), (75, 94, 220), (76, 95, 14), (77, 96, 14), (78, 97, 14), (79, 98, 14), (80, 99, 13), (81, 100, 220), (82, 101, 24), (83, 102, 12), (84, 103, 12), (85, 104, 12), (86, 105, 12), (87, 106, 8), (88, 107, 8), (89, 108, 8), (90, 109, 24), (91, 110, 288), (92, 111, 6912), (93, 112, 12), (94, 113, 8), (95, 114, 28), (96, 115, 24), (97, 116, 24), (98, 117, 25000), (99, 118, 422), (100, 119, 288), (101, 120, 288), (102, 121, 288), (103, 122, 24), (104, 123, 12), (105, 124, 12), (106, 125, 288), (107, 126, 422), (108, 127, 13), (109, 128, 40)]
def y0_z1 (c n : Nat) : Bool := match y0_NT[c]? with
  | some t => (match z_TYs[t]? with
    | some (.inr q) => Nat.ble n q.2.1.1 && q.2.2.any (fun s => Nat.beq s.1.1 0 && Nat.ble n (s.1.2 + 1) && (match s.2 with
      | .inl r => z_ile 0 r.1 && z_ile r.2 0
      | _ => false))
    | _ => false)
  | none => false
theorem y0_Z_ok : y0_Z.all (fun q => Nat.beq (y0_AN.getD q.1 0) q.2.1 && y0_z1 q.2.1 q.2.2) = true := by decide +kernel
theorem zE_G_l {g : Nat → Int → Int} {j : Nat} (h : j < 110) : zv_l (zE_G g) j = some (g j) := by
  have e : zE_G g = (List.range 110).map g := rfl
  rw [e, zv_l_get, List.getElem?_map, List.getElem?_range h]
  rfl
def y0_S : List Nat := (y0_P.map (fun q : Nat × Nat × Nat => q.1)).reverse ++ [86, 128]
theorem y0_go : zy_go z_TYs y0_P [86, 128] = some y0_S := by decide +kernel
theorem y0_all : (List.range 129).all (fun t => y0_S.any (fun u => Nat.beq u t)) = true := by decide +kernel
theorem y0_NT_lt : y0_NT.all (fun t => Nat.blt t 129) = true := by decide +kernel
def y0_n1 (i : Nat) : Bool := match z_TYs[(87 : Nat)]? with
  | some (.inr q) => Nat.beq q.2.1.1 422 && q.2.2.any (fun s => Nat.ble s.1.1 i && Nat.ble i s.1.2 && (match s.2 with
    | .inl r => z_ile 0 r.1 && z_ile r.2 0
    | _ => false))
  | _ => false
theorem y0_now : (List.range 422).all (fun i => (Nat.beq i 131 || (Nat.beq i 132 || Nat.beq i 133)) || y0_n1 i) = true := by decide +kernel
theorem y0_z1_ok {c n : Nat} (h : y0_z1 c n = true) : ∃ t q s r, y0_NT[c]? = some t ∧ z_TYs[t]? = some (.inr q) ∧ n ≤ q.2.1.1 ∧ s ∈ q.2.2 ∧ s.1.1 = 0 ∧ n ≤ s.1.2 + 1 ∧ s.2 = .inl r ∧ 0 ≤ r.1 ∧ r.2 ≤ 0 := by
  unfold y0_z1 at h
  split at h
  · rename_i t ht
    split at h
    · rename_i q hq
      rw [Bool.and_eq_true] at h
      obtain ⟨h1, h2⟩ := h
      obtain ⟨s, s1, s2⟩ := List.any_eq_true.mp h2
      simp only [Bool.and_eq_true] at s2
      obtain ⟨⟨s2, s3⟩, s4⟩ := s2
      split at s4
      · rename_i r hr
        rw [Bool.and_eq_true] at s4
        exact ⟨t, q, s, r, ht, hq, Nat.le_of_ble_eq_true h1, s1, z_beq s2, Nat.le_of_ble_eq_true s3, hr, z_ile_ok s4.1, z_ile_ok s4.2⟩
      · cases s4
    · cases h
  · cases h
/-- the arrays at the head -/
def y0_g (g : Nat → Int → Int) : Prop := (∀ q ∈ y0_Z, ∀ i : Int, 0 ≤ i → i < (q.2.2 : Nat) → g q.1 i = 0) ∧ g 67 131 = 4 ∧ g 67 132 = 3 ∧ g 67 133 = 1 ∧ ∀ i : Int, 0 ≤ i → i < 422 → i ≠ 131 → i ≠ 132 → i ≠ 133 → g 67 i = 0
theorem y0_rep {OB : Nat → Nat} {D : va_G} {DA : Nat → ClassId} {sz b : Nat} {H0 H : Heap} {T : zTp} {locs : List Loc} {ls : Array Slot} {x m : Nat} (hH : zy_H OB D DA z_cl z_TYs sz H0 4 b 86 128 z_nw T H locs ls x m) (hsz : H.size ≤ sz + 129) :
    ∃ (A : Nat → Nat) (g : Nat → Int → Int), (∀ a b, a < 129 → b < 129 → A a = A b → a = b) ∧ (∀ a, a < 129 → sz ≤ A a) ∧ (∀ k, A (900 + k) = OB k) ∧ A 0 = x ∧ A 1 = m ∧ zv_rep D DA z_cl zyE A (zE_F y0_f0) (zE_G g) H ∧ y0_g g := by
  obtain ⟨⟨hht, hge, -⟩, ⟨hx, hm⟩, -, hnw⟩ := hH
  have hN : ∀ t, t < 129 → ∃ a, T a = some t := fun t ht => by
    have h1 := List.all_eq_true.mp y0_all t (List.mem_range.mpr ht)
    obtain ⟨u, hu, h2⟩ := List.any_eq_true.mp h1
    rw [← z_beq h2]
    refine zy_go_ok hht.1 y0_go (fun t ht => ?_) u hu
    rcases List.mem_cons.mp ht with rfl | ht
    · exact ⟨x, hx⟩
    · rw [List.mem_singleton.mp ht]; exact ⟨m, hm⟩
  have hinj := zy_inj (N := 129) hge (fun a t ha => by obtain ⟨ty, -, h2⟩ := hht.1 a t ha; exact z_cell_lt h2) hsz hN
  obtain ⟨A, h1, h2, h3, h4, h5, h6⟩ := zy_rep_ok y0_ok (by decide) hht.1 hge hinj fun t ht => hN t (z_blt (List.all_eq_true.mp y0_NT_lt t ht))
  have hrep := h5 (zE_G fun j => zy_rd H (A (y0_AN.getD j 0))) fun q hq => by
    have h7 := List.all_eq_true.mp y0_AN_ok q hq
    rw [Bool.and_eq_true] at h7
    rw [zE_G_l (z_blt h7.1), z_beq h7.2]
  have zero : ∀ c n, y0_z1 c n = true → ∀ i : Int, 0 ≤ i → i < (n : Nat) → zy_rd H (A c) i = 0 := fun c n hc i i0 i1 => by
    obtain ⟨t, q, s, r, a1, a2, a3, a4, a5, a6, a7, a8, a9⟩ := y0_z1_ok hc
    have h8 := h6 c t q s r a1 a2 a4 a7 i.toNat (by omega) (by omega) (by omega)
    rw [Int.toNat_of_nonneg i0] at h8
    omega
  have nw : ∀ (e : Nat) (v : Int), ((0, 12, 0, some e), Sum.inl (v, v)) ∈ z_nw → zy_rd H (A 86) (e : Int) = v := fun e v he => by
    obtain ⟨y, r, n1, n2, n3⟩ := hnw _ he
    have n2 : (Sum.inl (v, v) : zV) = .inl r := n2
    cases n2
    obtain ⟨a, r0, c1, -, -, bb, c2, c3⟩ := n1
    cases c1
    obtain ⟨r1, -, -, c4⟩ := hrep.2.2.1 (1, 12, 0, 86) (by decide +kernel)
    have e1 : A 1 = m := hinj _ _ _ (h4 1 128 rfl) hm
    have c4 : z_sl H (A 1) (D.2 12 0) (.ref (A 86)) := c4
    rw [e1] at c4
    have c5 := z_sl_fun c2 c4
    cases c5
    obtain ⟨ce, d1, -, d2⟩ := c3
    unfold zy_rd
    rw [d1, Int.toNat_natCast]
    show (match ce.slots[e]? with
      | some (.int x) => x.toInt
      | some (.long x) => (x.toBitVec.toNat : Int)
      | _ => 0) = v
    rw [d2]
    have := n3.1
    have := n3.2
    show y.toInt = v
    omega
  refine ⟨A, fun j => zy_rd H (A (y0_AN.getD j 0)), h1, h2, h3, hinj _ _ _ (h4 0 86 rfl) hx, hinj _ _ _ (h4 1 128 rfl) hm, hrep, fun q hq i i0 i1 => ?_, nw 131 4 List.mem_cons_self, nw 132 3 (List.mem_cons_of_mem _ List.mem_cons_self), nw 133 1 (List.mem_cons_of_mem _ (List.mem_cons_of_mem _ List.mem_cons_self)), fun i i0 i1 n1 n2 n3 => ?_⟩
  · have h7 := List.all_eq_true.mp y0_Z_ok q hq
    rw [Bool.and_eq_true] at h7
    show zy_rd H (A (y0_AN.getD q.1 0)) i = 0
    rw [z_beq h7.1]
    exact zero _ _ h7.2 i i0 i1
  · show zy_rd H (A 86) i = 0
    have h7 := List.all_eq_true.mp y0_now i.toNat (List.mem_range.mpr (by omega))
    rw [Bool.or_eq_true] at h7
    rcases h7 with h7 | h7
    · rw [Bool.or_eq_true, Bool.or_eq_true] at h7
      rcases h7 with h7 | h7 | h7
      · have := z_beq h7; omega
      · have := z_beq h7; omega
      · have := z_beq h7; omega
    · unfold y0_n1 at h7
      split at h7
      · rename_i q hq
        rw [Bool.and_eq_true] at h7
        obtain ⟨s, s1, s2⟩ := List.any_eq_true.mp h7.2
        simp only [Bool.and_eq_true] at s2
        obtain ⟨⟨s2, s3⟩, s4⟩ := s2
        split at s4
        · rename_i r hr
          rw [Bool.and_eq_true] at s4
          have h8 := h6 86 87 q s r rfl hq s1 hr i.toNat (by have := z_beq h7.1; omega) (Nat.le_of_ble_eq_true s2) (Nat.le_of_ble_eq_true s3)
          rw [Int.toNat_of_nonneg i0] at h8
          have := z_ile_ok s4.1
          have := z_ile_ok s4.2
          omega
        · cases s4
      · cases h7
end
section
/-! Names given anew: the two laws, the two tales change their parts. -/
def zy_rk (y : zNL) (ρ φ ψ : List Nat) : Bool :=
  (Nat.ble ρ.length 900 && (ρ.all (fun d => Nat.blt d 900) && (Nat.beq ρ.length (n_N y) && (ρ.all (fun d => Nat.blt d (n_N y)) && (List.range (n_N y)).all (fun a => (List.range (n_N y)).all (fun b => Nat.beq a b || !(Nat.beq (zv_rc ρ a) (zv_rc ρ b)))))))) &&
  ((n_O y).all (fun q => (n_O y).any (fun u => Nat.beq u.1 (zv_rc ρ q.1) && Nat.beq u.2 q.2)) &&
  ((n_I y).all (fun q => (n_I y).any (fun u => zv_e4 u (zv_rc ρ q.1, q.2.1, q.2.2.1, zv_rc φ q.2.2.2))) &&
  ((n_R y).all (fun q => (n_R y).any (fun u => zv_e4 u (zv_rc ρ q.1, q.2.1, q.2.2.1, zv_rc ρ q.2.2.2))) &&
  (n_A y).all (fun q => (n_A y).any (fun u => zv_e4 u (zv_rc ρ q.1, q.2.1, q.2.2.1, zv_rc ψ q.2.2.2))))))
theorem zy_rk1 {y : zNL} {ρ φ ψ : List Nat} (h : zy_rk y ρ φ ψ = true) : (ρ.length ≤ 900 ∧ (∀ d ∈ ρ, d < 900) ∧ (∀ a, a < n_N y → zv_rc ρ a < n_N y) ∧ ∀ a b, a < n_N y → b < n_N y → zv_rc ρ a = zv_rc ρ b → a = b) ∧ (∀ q ∈ n_O y, (zv_rc ρ q.1, q.2) ∈ n_O y) ∧ (∀ q ∈ n_I y, (zv_rc ρ q.1, q.2.1, q.2.2.1, zv_rc φ q.2.2.2) ∈ n_I y) ∧ (∀ q ∈ n_R y, (zv_rc ρ q.1, q.2.1, q.2.2.1, zv_rc ρ q.2.2.2) ∈ n_R y) ∧ ∀ q ∈ n_A y, (zv_rc ρ q.1, q.2.1, q.2.2.1, zv_rc ψ q.2.2.2) ∈ n_A y := by
  unfold zy_rk at h
  simp only [Bool.and_eq_true] at h
  obtain ⟨⟨a1, a2, a3, a4, a5⟩, b1, b2, b3, b4⟩ := h
  refine ⟨⟨Nat.le_of_ble_eq_true a1, fun d hd => z_blt (List.all_eq_true.mp a2 d hd), fun a ha => ?_, fun a b ha hb e => ?_⟩, fun q hq => ?_, fun q hq => zv_any4 (List.all_eq_true.mp b2 q hq), fun q hq => zv_any4 (List.all_eq_true.mp b3 q hq), fun q hq => zv_any4 (List.all_eq_true.mp b4 q hq)⟩
  · have hl := z_beq a3
    unfold zv_rc
    rw [zv_l_get, List.getElem?_eq_getElem (by omega)]
    exact z_blt (List.all_eq_true.mp a4 _ (List.getElem_mem _))
  · have h3 := List.all_eq_true.mp (List.all_eq_true.mp a5 a (List.mem_range.mpr ha)) b (List.mem_range.mpr hb)
    rw [Bool.or_eq_true] at h3
    rcases h3 with h3 | h3
    · exact z_beq h3
    · rw [e] at h3
      have : Nat.beq (zv_rc ρ b) (zv_rc ρ b) = true := Nat.beq_refl _
      rw [this] at h3
      cases h3
  · obtain ⟨u, hu, h2⟩ := List.any_eq_true.mp (List.all_eq_true.mp b1 q hq)
    rw [Bool.and_eq_true] at h2
    rw [← z_beq h2.1, ← z_beq h2.2]; exact hu
theorem zy_ren {D : va_G} {DA : Nat → ClassId} {cl : List vw_C} {y : zNL} {A : Nat → Nat} {F F2 : List zNV} {G G2 : List (Int → Int)} {H : Heap} {ρ φ ψ : List Nat} (hk : zy_rk y ρ φ ψ = true) (hF : ∀ q ∈ n_I y, ∃ v, zv_l F2 q.2.2.2 = some v ∧ (zv_is v → zv_l F (zv_rc φ q.2.2.2) = some (zv_rn ρ v))) (hG : ∀ q ∈ n_A y, zv_l G2 q.2.2.2 = zv_l G (zv_rc ψ q.2.2.2)) (h : zv_rep D DA cl y A F G H) : zv_rep D DA cl y (fun c => A (zv_rc ρ c)) F2 G2 H := by
  obtain ⟨⟨a1, a2, -, -⟩, b1, b2, b3, b4⟩ := zy_rk1 hk
  refine ⟨fun q hq => h.1 _ (b1 q hq), fun q hq => ?_, fun q hq => h.2.2.1 _ (b3 q hq), fun q hq => ?_⟩
  · obtain ⟨r, w, f, r1, r2, r3, r4, r5⟩ := h.2.1 _ (b2 q hq)
    obtain ⟨v, v1, v2⟩ := hF q hq
    refine ⟨r, w, v, r1, r2, r3, v1, fun hv => ?_⟩
    have e := v2 hv
    rw [r4] at e
    cases e
    match v, hv, r5 with
    | .inl x, _, r5 => exact r5 trivial
    | .inr c, hv, r5 =>
      have hc : c < 1000 := hv
      refine zv_w_rn a1 a2 (r5 (show zv_rc ρ c < 1000 from ?_))
      unfold zv_rc
      split
      · rename_i d hd
        rw [zv_l_get] at hd
        have := a2 d (List.mem_of_getElem? hd)
        omega
      · exact hc
  · obtain ⟨f, g, g1, g2, g3⟩ := h.2.2.2 _ (b4 q hq)
    exact ⟨f, g, g1, by rw [hG q hq]; exact g2, g3⟩
def zE_s1 : List Nat := [0, 1, 2, 3, 4, 5, 6, 7, 8, 9, 10, 11, 12, 13, 21, 31, 33, 28, 59, 29, 30, 14, 22, 23, 24, 25, 26, 127, 17, 19, 20, 15, 128, 16, 34, 35, 36, 37, 38, 39, 40, 41, 42, 43, 44, 45, 46, 47, 48, 49, 50, 51, 52, 53, 54, 55, 56, 57, 58, 18, 60, 61, 62, 63, 64, 65, 66, 67, 68, 69, 70, 71, 72, 73, 74, 75, 76, 77, 78, 79, 80, 81, 82, 83, 84, 85, 86, 87, 88, 89, 90, 91, 92, 93, 94, 95, 96, 97, 98, 99, 100, 101, 102, 103, 104, 105, 106, 107, 108, 109, 110, 111, 112, 113, 114, 115, 116, 117, 118, 119, 120, 121, 122, 123, 124, 125, 126, 27, 32]
def zE_p1 : List Nat := [0, 1, 2, 3, 4, 5, 6, 7, 8, 9, 10, 11, 12, 98, 32, 30, 35, 34, 36, 19, 20, 21, 22, 23, 24, 25, 26, 27, 28, 29, 15, 31, 14, 97, 17, 16, 18, 37, 38, 39, 40, 41, 42, 43, 44, 45, 46, 47, 48, 49, 50, 51, 52, 53, 54, 55, 56, 57, 58, 59, 60, 61, 62, 63, 64, 65, 66, 67, 68, 69, 70, 71, 72, 73, 74, 75, 76, 77, 78, 79, 80, 81, 82, 83, 84, 85, 86, 87, 88, 89, 90, 91, 92, 93, 94, 95, 96, 33, 13]
def zE_q1 : List Nat := [0, 1, 2, 3, 4, 5, 6, 7, 20, 22, 17, 44, 18, 19, 14, 15, 108, 10, 12, 13, 8, 109, 9, 23, 24, 25, 26, 27, 28, 29, 30, 31, 32, 33, 34, 35, 36, 37, 38, 39, 40, 41, 42, 43, 11, 45, 46, 47, 48, 49, 50, 51, 52, 53, 54, 55, 56, 57, 58, 59, 60, 61, 62, 63, 64, 65, 66, 67, 68, 69, 70, 71, 72, 73, 74, 75, 76, 77, 78, 79, 80, 81, 82, 83, 84, 85, 86, 87, 88, 89, 90, 91, 92, 93, 94, 95, 96, 97, 98, 99, 100, 101, 102, 103, 104, 105, 106, 107, 16, 21]
theorem zE_rk1 : zy_rk zyE zE_s1 zE_p1 zE_q1 = true := by decide +kernel
theorem zE_lt1 : ((n_I zyE).all (fun q => Nat.blt q.2.2.2 99) && (n_A zyE).all (fun q => Nat.blt q.2.2.2 110 && Nat.blt (zv_rc zE_q1 q.2.2.2) 110)) = true := by decide +kernel
theorem zE_fl1 {f : Nat → Int} : ∀ j, j < 99 → ∃ v, zv_l (zE_F (fun j => f (zv_rc zE_p1 j))) j = some v ∧ (zv_is v → zv_l (zE_Fr 21 14 1000 22 24 1000 1000 1000 1000 1000 1000 f) (zv_rc zE_p1 j) = some (zv_rn zE_s1 v)) := by
  intro j hj
  match j, hj with
  | 0, _ => exact ⟨_, rfl, fun _ => rfl⟩
  | 1, _ => exact ⟨_, rfl, fun _ => rfl⟩
  | 2, _ => exact ⟨_, rfl, fun _ => rfl⟩
  | 3, _ => exact ⟨_, rfl, fun _ => rfl⟩
  | 4, _ => exact ⟨_, rfl, fun _ => rfl⟩
  | 5, _ => exact ⟨_, rfl, fun _ => rfl⟩
  | 6, _ => exact ⟨_, rfl, fun _ => rfl⟩
  | 7, _ => exact ⟨_, rfl, fun _ => rfl⟩
  | 8, _ => exact ⟨_, rfl, fun _ => rfl⟩
  | 9, _ => exact ⟨_, rfl, fun _ => rfl⟩
  | 10, _ => exact ⟨_, rfl, fun _ => rfl⟩
  | 11, _ => exact ⟨_, rfl, fun _ => rfl⟩
  | 12, _ => exact ⟨_, rfl, fun (h : zv_is (.inr 1000)) => (Nat.lt_irrefl 1000 h).elim⟩
  | 13, _ => exact ⟨_, rfl, fun _ => rfl⟩
  | 14, _ => exact ⟨_, rfl, fun _ => rfl⟩
  | 15, _ => exact ⟨_, rfl, fun _ => rfl⟩
  | 16, _ => exact ⟨_, rfl, fun _ => rfl⟩
  | 17, _ => exact ⟨_, rfl, fun _ => rfl⟩
  | 18, _ => exact ⟨_, rfl, fun _ => rfl⟩
  | 19, _ => exact ⟨_, rfl, fun _ => rfl⟩
  | 20, _ => exact ⟨_, rfl, fun _ => rfl⟩
  | 21, _ => exact ⟨_, rfl, fun _ => rfl⟩
  | 22, _ => exact ⟨_, rfl, fun _ => rfl⟩
  | 23, _ => exact ⟨_, rfl, fun (h : zv_is (.inr 1000)) => (Nat.lt_irrefl 1000 h).elim⟩
  | 24, _ => exact ⟨_, rfl, fun (h : zv_is (.inr 1000)) => (Nat.lt_irrefl 1000 h).elim⟩
  | 25, _ => exact ⟨_, rfl, fun _ => rfl⟩
  | 26, _ => exact ⟨_, rfl, fun _ => rfl⟩
  | 27, _ => exact ⟨_, rfl, fun _ => rfl⟩
  | 28, _ => exact ⟨_, rfl, fun _ => rfl⟩
  | 29, _ => exact ⟨_, rfl, fun _ => rfl⟩
  | 30, _ => exact ⟨_, rfl, fun _ => rfl⟩
  | 31, _ => exact ⟨_, rfl, fun _ => rfl⟩
  | 32, _ => exact ⟨_, rfl, fun _ => rfl⟩
  | 33, _ => exact ⟨_, rfl, fun _ => rfl⟩
  | 34, _ => exact ⟨_, rfl, fun _ => rfl⟩
  | 35, _ => exact ⟨_, rfl, fun _ => rfl⟩
  | 36, _ => exact ⟨_, rfl, fun _ => rfl⟩
  | 37, _ => exact ⟨_, rfl, fun _ => rfl⟩
  | 38, _ => exact ⟨_, rfl, fun _ => rfl⟩
  | 39, _ => exact ⟨_, rfl, fun (h : zv_is (.inr 1000)) => (Nat.lt_irrefl 1000 h).elim⟩
  | 40, _ => exact ⟨_, rfl, fun (h : zv_is (.inr 1000)) => (Nat.lt_irrefl 1000 h).elim⟩
  | 41, _ => exact ⟨_, rfl, fun _ => rfl⟩
  | 42, _ => exact ⟨_, rfl, fun _ => rfl⟩
  | 43, _ => exact ⟨_, rfl, fun _ => rfl⟩
  | 44, _ => exact ⟨_, rfl, fun _ => rfl⟩
  | 45, _ => exact ⟨_, rfl, fun _ => rfl⟩
  | 46, _ => exact ⟨_, rfl, fun _ => rfl⟩
  | 47, _ => exact ⟨_, rfl, fun _ => rfl⟩
  | 48, _ => exact ⟨_, rfl, fun _ => rfl⟩
  | 49, _ => exact ⟨_, rfl, fun _ => rfl⟩
  | 50, _ => exact ⟨_, rfl, fun _ => rfl⟩
  | 51, _ => exact ⟨_, rfl, fun _ => rfl⟩
  | 52, _ => exact ⟨_, rfl, fun _ => rfl⟩
  | 53, _ => exact ⟨_, rfl, fun _ => rfl⟩
  | 54, _ => exact ⟨_, rfl, fun _ => rfl⟩
  | 55, _ => exact ⟨_, rfl, fun _ => rfl⟩
  | 56, _ => exact ⟨_, rfl, fun _ => rfl⟩
  | 57, _ => exact ⟨_, rfl, fun (h : zv_is (.inr 1000)) => (Nat.lt_irrefl 1000 h).elim⟩
  | 58, _ => exact ⟨_, rfl, fun (h : zv_is (.inr 1000)) => (Nat.lt_irrefl 1000 h).elim⟩
  | 59, _ => exact ⟨_, rfl, fun _ => rfl⟩
  | 60, _ => exact ⟨_, rfl, fun _ => rfl⟩
  | 61, _ => exact ⟨_, rfl, fun _ => rfl⟩
  | 62, _ => exact ⟨_, rfl, fun _ => rfl⟩
  | 63, _ => exact ⟨_, rfl, fun _ => rfl⟩
  | 64, _ => exact ⟨_, rfl, fun _ => rfl⟩
  | 65, _ => exact ⟨_, rfl, fun _ => rfl⟩
  | 66, _ => exact ⟨_, rfl, fun _ => rfl⟩
  | 67, _ => exact ⟨_, rfl, fun _ => rfl⟩
  | 68, _ => exact ⟨_, rfl, fun _ => rfl⟩
  | 69, _ => exact ⟨_, rfl, fun _ => rfl⟩
  | 70, _ => exact ⟨_, rfl, fun _ => rfl⟩
  | 71, _ => exact ⟨_, rfl, fun _ => rfl⟩
  | 72, _ => exact ⟨_, rfl, fun _ => rfl⟩
  | 73, _ => exact ⟨_, rfl, fun _ => rfl⟩
  | 74, _ => exact ⟨_, rfl, fun _ => rfl⟩
  | 75, _ => exact ⟨_, rfl, fun _ => rfl⟩
  | 76, _ => exact ⟨_, rfl, fun _ => rfl⟩
  | 77, _ => exact ⟨_, rfl, fun _ => rfl⟩
  | 78, _ => exact ⟨_, rfl, fun _ => rfl⟩
  | 79, _ => exact ⟨_, rfl, fun _ => rfl⟩
  | 80, _ => exact ⟨_, rfl, fun _ => rfl⟩
  | 81, _ => exact ⟨_, rfl, fun _ => rfl⟩
  | 82, _ => exact ⟨_, rfl, fun _ => rfl⟩
  | 83, _ => exact ⟨_, rfl, fun _ => rfl⟩
  | 84, _ => exact ⟨_, rfl, fun _ => rfl⟩
  | 85, _ => exact ⟨_, rfl, fun _ => rfl⟩
  | 86, _ => exact ⟨_, rfl, fun _ => rfl⟩
  | 87, _ => exact ⟨_, rfl, fun _ => rfl⟩
  | 88, _ => exact ⟨_, rfl, fun _ => rfl⟩
  | 89, _ => exact ⟨_, rfl, fun _ => rfl⟩
  | 90, _ => exact ⟨_, rfl, fun _ => rfl⟩
  | 91, _ => exact ⟨_, rfl, fun _ => rfl⟩
  | 92, _ => exact ⟨_, rfl, fun _ => rfl⟩
  | 93, _ => exact ⟨_, rfl, fun _ => rfl⟩
  | 94, _ => exact ⟨_, rfl, fun _ => rfl⟩
  | 95, _ => exact ⟨_, rfl, fun _ => rfl⟩
  | 96, _ => exact ⟨_, rfl, fun _ => rfl⟩
  | 97, _ => exact ⟨_, rfl, fun _ => rfl⟩
  | 98, _ => exact ⟨_, rfl, fun _ => rfl⟩
  | n + 99, h => omega
theorem zE_sw1 {D : va_G} {DA : Nat → ClassId} {cl : List vw_C} {A : Nat → Nat} {f : Nat → Int} {g : Nat → Int → Int} {H : Heap} (h : zv_rep D DA cl zyE A (zE_Fr 21 14 1000 22 24 1000 1000 1000 1000 1000 1000 f) (zE_G g) H) : zv_rep D DA cl zyE (fun c => A (zv_rc zE_s1 c)) (zE_F (fun j => f (zv_rc zE_p1 j))) (zE_G (fun j => g (zv_rc zE_q1 j))) H := by
  have hl := zE_lt1
  rw [Bool.and_eq_true] at hl
  refine zy_ren zE_rk1 (fun q hq => zE_fl1 _ (z_blt (List.all_eq_true.mp hl.1 q hq))) (fun q hq => ?_) h
  have h2 := List.all_eq_true.mp hl.2 q hq
  rw [Bool.and_eq_true] at h2
  rw [zE_G_l (z_blt h2.1), zE_G_l (z_blt h2.2)]
def zE_s2 : List Nat := [0, 1, 2, 3, 4, 5, 6, 7, 8, 9, 10, 11, 12, 13, 14, 15, 16, 17, 18, 19, 20, 21, 24, 38, 22, 25, 26, 27, 28, 29, 30, 31, 32, 33, 34, 35, 36, 37, 23, 39, 40, 41, 42, 43, 44, 45, 46, 47, 48, 49, 50, 51, 52, 53, 54, 55, 56, 57, 58, 59, 60, 61, 62, 63, 64, 65, 66, 67, 68, 69, 70, 71, 72, 73, 74, 75, 76, 77, 78, 79, 80, 81, 82, 83, 84, 85, 86, 87, 88, 89, 90, 91, 92, 93, 94, 95, 96, 97, 98, 99, 100, 101, 102, 103, 104, 105, 106, 107, 108, 109, 110, 111, 112, 113, 114, 115, 116, 117, 118, 119, 120, 121, 122, 123, 124, 125, 126, 127, 128]
def zE_p2 : List Nat := [0, 1, 2, 3, 4, 5, 6, 7, 8, 9, 10, 11, 12, 13, 14, 15, 16, 17, 18, 19, 20, 37, 38, 23, 24, 25, 26, 27, 28, 29, 30, 31, 32, 33, 34, 35, 36, 21, 22, 39, 40, 41, 42, 43, 44, 45, 46, 47, 48, 49, 50, 51, 52, 53, 54, 55, 56, 57, 58, 59, 60, 61, 62, 63, 64, 65, 66, 67, 68, 69, 70, 71, 72, 73, 74, 75, 76, 77, 78, 79, 80, 81, 82, 83, 84, 85, 86, 87, 88, 89, 90, 91, 92, 93, 94, 95, 96, 97, 98]
def zE_q2 : List Nat := [0, 1, 2, 3, 4, 5, 6, 7, 8, 9, 10, 11, 12, 13, 26, 15, 16, 17, 18, 19, 20, 21, 22, 23, 24, 25, 14, 27, 28, 29, 30, 31, 32, 33, 34, 35, 36, 37, 38, 39, 40, 41, 42, 43, 44, 45, 46, 47, 48, 49, 50, 51, 52, 53, 54, 55, 56, 57, 58, 59, 60, 61, 62, 63, 64, 65, 66, 67, 68, 69, 70, 71, 72, 73, 74, 75, 76, 77, 78, 79, 80, 81, 82, 83, 84, 85, 86, 87, 88, 89, 90, 91, 92, 93, 94, 95, 96, 97, 98, 99, 100, 101, 102, 103, 104, 105, 106, 107, 108, 109]
theorem zE_rk2 : zy_rk zyE zE_s2 zE_p2 zE_q2 = true := by decide +kernel
theorem zE_lt2 : ((n_I zyE).all (fun q => Nat.blt q.2.2.2 99) && (n_A zyE).all (fun q => Nat.blt q.2.2.2 110 && Nat.blt (zv_rc zE_q2 q.2.2.2) 110)) = true := by decide +kernel
theorem zE_fl2 {f : Nat → Int} : ∀ j, j < 99 → ∃ v, zv_l (zE_F (fun j => f (zv_rc zE_p2 j))) j = some v ∧ (zv_is v → zv_l (zE_Fr 14 21 1000 24 22 1000 1000 1000 1000 1000 1000 f) (zv_rc zE_p2 j) = some (zv_rn zE_s2 v)) := by
  intro j hj
  match j, hj with
  | 0, _ => exact ⟨_, rfl, fun _ => rfl⟩
  | 1, _ => exact ⟨_, rfl, fun _ => rfl⟩
  | 2, _ => exact ⟨_, rfl, fun _ => rfl⟩
  | 3, _ => exact ⟨_, rfl, fun _ => rfl⟩
  | 4, _ => exact ⟨_, rfl, fun _ => rfl⟩
  | 5, _ => exact ⟨_, rfl, fun _ => rfl⟩
  | 6, _ => exact ⟨_, rfl, fun _ => rfl⟩
  | 7, _ => exact ⟨_, rfl, fun _ => rfl⟩
  | 8, _ => exact ⟨_, rfl, fun _ => rfl⟩
  | 9, _ => exact ⟨_, rfl, fun _ => rfl⟩
  | 10, _ => exact ⟨_, rfl, fun _ => rfl⟩
  | 11, _ => exact ⟨_, rfl, fun _ => rfl⟩
  | 12, _ => exact ⟨_, rfl, fun (h : zv_is (.inr 1000)) => (Nat.lt_irrefl 1000 h).elim⟩
  | 13, _ => exact ⟨_, rfl, fun _ => rfl⟩
  | 14, _ => exact ⟨_, rfl, fun _ => rfl⟩
  | 15, _ => exact ⟨_, rfl, fun _ => rfl⟩
  | 16, _ => exact ⟨_, rfl, fun _ => rfl⟩
  | 17, _ => exact ⟨_, rfl, fun _ => rfl⟩
  | 18, _ => exact ⟨_, rfl, fun _ => rfl⟩
  | 19, _ => exact ⟨_, rfl, fun _ => rfl⟩
  | 20, _ => exact ⟨_, rfl, fun _ => rfl⟩
  | 21, _ => exact ⟨_, rfl, fun _ => rfl⟩
  | 22, _ => exact ⟨_, rfl, fun _ => rfl⟩
  | 23, _ => exact ⟨_, rfl, fun (h : zv_is (.inr 1000)) => (Nat.lt_irrefl 1000 h).elim⟩
  | 24, _ => exact ⟨_, rfl, fun (h : zv_is (.inr 1000)) => (Nat.lt_irrefl 1000 h).elim⟩
  | 25, _ => exact ⟨_, rfl, fun _ => rfl⟩
  | 26, _ => exact ⟨_, rfl, fun _ => rfl⟩
  | 27, _ => exact ⟨_, rfl, fun _ => rfl⟩
  | 28, _ => exact ⟨_, rfl, fun _ => rfl⟩
  | 29, _ => exact ⟨_, rfl, fun _ => rfl⟩
  | 30, _ => exact ⟨_, rfl, fun _ => rfl⟩
  | 31, _ => exact ⟨_, rfl, fun _ => rfl⟩
  | 32, _ => exact ⟨_, rfl, fun _ => rfl⟩
  | 33, _ => exact ⟨_, rfl, fun _ => rfl⟩
  | 34, _ => exact ⟨_, rfl, fun _ => rfl⟩
  | 35, _ => exact ⟨_, rfl, fun _ => rfl⟩
  | 36, _ => exact ⟨_, rfl, fun _ => rfl⟩
  | 37, _ => exact ⟨_, rfl, fun _ => rfl⟩
  | 38, _ => exact ⟨_, rfl, fun _ => rfl⟩
  | 39, _ => exact ⟨_, rfl, fun (h : zv_is (.inr 1000)) => (Nat.lt_irrefl 1000 h).elim⟩
  | 40, _ => exact ⟨_, rfl, fun (h : zv_is (.inr 1000)) => (Nat.lt_irrefl 1000 h).elim⟩
  | 41, _ => exact ⟨_, rfl, fun _ => rfl⟩
  | 42, _ => exact ⟨_, rfl, fun _ => rfl⟩
  | 43, _ => exact ⟨_, rfl, fun _ => rfl⟩
  | 44, _ => exact ⟨_, rfl, fun _ => rfl⟩
  | 45, _ => exact ⟨_, rfl, fun _ => rfl⟩
  | 46, _ => exact ⟨_, rfl, fun _ => rfl⟩
  | 47, _ => exact ⟨_, rfl, fun _ => rfl⟩
  | 48, _ => exact ⟨_, rfl, fun _ => rfl⟩
  | 49, _ => exact ⟨_, rfl, fun _ => rfl⟩
  | 50, _ => exact ⟨_, rfl, fun _ => rfl⟩
  | 51, _ => exact ⟨_, rfl, fun _ => rfl⟩
  | 52, _ => exact ⟨_, rfl, fun _ => rfl⟩
  | 53, _ => exact ⟨_, rfl, fun _ => rfl⟩
  | 54, _ => exact ⟨_, rfl, fun _ => rfl⟩
  | 55, _ => exact ⟨_, rfl, fun _ => rfl⟩
  | 56, _ => exact ⟨_, rfl, fun _ => rfl⟩
  | 57, _ => exact ⟨_, rfl, fun (h : zv_is (.inr 1000)) => (Nat.lt_irrefl 1000 h).elim⟩
  | 58, _ => exact ⟨_, rfl, fun (h : zv_is (.inr 1000)) => (Nat.lt_irrefl 1000 h).elim⟩
  | 59, _ => exact ⟨_, rfl, fun _ => rfl⟩
  | 60, _ => exact ⟨_, rfl, fun _ => rfl⟩
  | 61, _ => exact ⟨_, rfl, fun _ => rfl⟩
  | 62, _ => exact ⟨_, rfl, fun _ => rfl⟩
  | 63, _ => exact ⟨_, rfl, fun _ => rfl⟩
  | 64, _ => exact ⟨_, rfl, fun _ => rfl⟩
  | 65, _ => exact ⟨_, rfl, fun _ => rfl⟩
  | 66, _ => exact ⟨_, rfl, fun _ => rfl⟩
  | 67, _ => exact ⟨_, rfl, fun _ => rfl⟩
  | 68, _ => exact ⟨_, rfl, fun _ => rfl⟩
  | 69, _ => exact ⟨_, rfl, fun _ => rfl⟩
  | 70, _ => exact ⟨_, rfl, fun _ => rfl⟩
  | 71, _ => exact ⟨_, rfl, fun _ => rfl⟩
  | 72, _ => exact ⟨_, rfl, fun _ => rfl⟩
  | 73, _ => exact ⟨_, rfl, fun _ => rfl⟩
  | 74, _ => exact ⟨_, rfl, fun _ => rfl⟩
  | 75, _ => exact ⟨_, rfl, fun _ => rfl⟩
  | 76, _ => exact ⟨_, rfl, fun _ => rfl⟩
  | 77, _ => exact ⟨_, rfl, fun _ => rfl⟩
  | 78, _ => exact ⟨_, rfl, fun _ => rfl⟩
  | 79, _ => exact ⟨_, rfl, fun _ => rfl⟩
  | 80, _ => exact ⟨_, rfl, fun _ => rfl⟩
  | 81, _ => exact ⟨_, rfl, fun _ => rfl⟩
  | 82, _ => exact ⟨_, rfl, fun _ => rfl⟩
  | 83, _ => exact ⟨_, rfl, fun _ => rfl⟩
  | 84, _ => exact ⟨_, rfl, fun _ => rfl⟩
  | 85, _ => exact ⟨_, rfl, fun _ => rfl⟩
  | 86, _ => exact ⟨_, rfl, fun _ => rfl⟩
  | 87, _ => exact ⟨_, rfl, fun _ => rfl⟩
  | 88, _ => exact ⟨_, rfl, fun _ => rfl⟩
  | 89, _ => exact ⟨_, rfl, fun _ => rfl⟩
  | 90, _ => exact ⟨_, rfl, fun _ => rfl⟩
  | 91, _ => exact ⟨_, rfl, fun _ => rfl⟩
  | 92, _ => exact ⟨_, rfl, fun _ => rfl⟩
  | 93, _ => exact ⟨_, rfl, fun _ => rfl⟩
  | 94, _ => exact ⟨_, rfl, fun _ => rfl⟩
  | 95, _ => exact ⟨_, rfl, fun _ => rfl⟩
  | 96, _ => exact ⟨_, rfl, fun _ => rfl⟩
  | 97, _ => exact ⟨_, rfl, fun _ => rfl⟩
  | 98, _ => exact ⟨_, rfl, fun _ => rfl⟩
  | n + 99, h => omega
theorem zE_sw2 {D : va_G} {DA : Nat → ClassId} {cl : List vw_C} {A : Nat → Nat} {f : Nat → Int} {g : Nat → Int → Int} {H : Heap} (h : zv_rep D DA cl zyE A (zE_Fr 14 21 1000 24 22 1000 1000 1000 1000 1000 1000 f) (zE_G g) H) : zv_rep D DA cl zyE (fun c => A (zv_rc zE_s2 c)) (zE_F (fun j => f (zv_rc zE_p2 j))) (zE_G (fun j => g (zv_rc zE_q2 j))) H := by
  have hl := zE_lt2
  rw [Bool.and_eq_true] at hl
  refine zy_ren zE_rk2 (fun q hq => zE_fl2 _ (z_blt (List.all_eq_true.mp hl.1 q hq))) (fun q hq => ?_) h
  have h2 := List.all_eq_true.mp hl.2 q hq
  rw [Bool.and_eq_true] at h2
  rw [zE_G_l (z_blt h2.1), zE_G_l (z_blt h2.2)]
end
section
/-! The law over names: its rules, its loop. -/
abbrev lwm : zM := (x, code, 4, ret, 1, 0)
abbrev lwK : zK := (z_KF12, z_KC12, z_KL12, z_KT12, [], [], [], none)
abbrev zw_lc (i : Int) : List zNV := [.inr 900, .inr 0, .inr 1, .inl i]
def zw_R (Lx : Nat) (xs : Nat → Int32) (good : Nat → List zNV → List zNV → List zNV → List (Int → Int) → Prop) : Prop :=
  (∀ pc L S F G, decode code pc = .ok (.arraylength, 1) → good (pc + 1) L (.inl (Lx : Int) :: S) F G → good pc L (.inr 900 :: S) F G) ∧
  (∀ pc L S F G (a : Int), decode code pc = .ok (.iaload, 1) → 0 ≤ a → a < (Lx : Int) → good (pc + 1) L (.inl (xs a.toNat).toInt :: S) F G → good pc L (.inl a :: .inr 900 :: S) F G) ∧
  (∀ pc L F G, decode code pc = .ok (.ireturn, 1) → good pc L [.inl 1] F G)
abbrev zw_B (good : Nat → List zNV → List zNV → List zNV → List (Int → Int) → Prop) : Prop := zv_B z_cl z_FT z_KX z_TB z_MT zyE lwm lwK (2048, 84000) good
/-- one call of the law, from behind its test -/
def zw_body (Lx : Nat) (xs : Nat → Int32) (Inv : (Nat → Int) → (Nat → Int → Int) → Prop) : Prop :=
  ∀ good, zw_B good → zw_R Lx xs good → ∀ (i : Int) (f : Nat → Int) (g : Nat → Int → Int), Inv f g → 0 ≤ i → i + 6 ≤ Lx →
    (∀ f' g', Inv f' g' → good 18 (zw_lc (i + 6)) [] (zE_F f') (zE_G g')) →
    (∀ f' g', Inv (fun j => f' (zv_rc zE_p1 j)) (fun j => g' (zv_rc zE_q1 j)) → good 18 (zw_lc (i + 6)) [] (zE_Fr 21 14 1000 22 24 1000 1000 1000 1000 1000 1000 f') (zE_G g')) →
    (∀ f' g', Inv (fun j => f' (zv_rc zE_p2 j)) (fun j => g' (zv_rc zE_q2 j)) → good 18 (zw_lc (i + 6)) [] (zE_Fr 14 21 1000 24 22 1000 1000 1000 1000 1000 1000 f') (zE_G g')) →
    good 27 (zw_lc i) [] (zE_F f) (zE_G g)
section ZWLOOP
variable {p : Program} {l : Launch} {e : Env} {s : State} {m : MethodId} {args : Array Value} {below : List Frame} {meth : Method} {c : Code} {Q : State → Prop}
variable {OB : Nat → Nat} {D : va_G} {DA : Nat → ClassId} {b Lx : Nat} {xs : Nat → Int32} {Inv : (Nat → Int) → (Nat → Int → Int) → Prop}
theorem zw_S {sz : Nat} {H0 H H2 : Heap} {locs locs2 : List Loc} (hz : sz ≤ H0.size) (h : va_S (fun q => sz ≤ q) H0 H locs) (h2 : va_S (fun q => sz ≤ q) H H2 locs2) : va_S (fun q => sz ≤ q) H0 H2 locs2 :=
  ⟨Nat.le_trans h.1 h2.1, fun q h3 h4 => (h2.2.1 q (Nat.lt_of_lt_of_le h3 h.1) h4).trans (h.2.1 q h3 h4), h2.2.2⟩
theorem zw_ren {A : Nat → Nat} {ρ φ ψ : List Nat} {sz : Nat} (hk : zy_rk zyE ρ φ ψ = true) (hinj : ∀ a b, a < 129 → b < 129 → A a = A b → a = b) (hge : ∀ a, a < 129 → sz ≤ A a) (hOB : ∀ k, A (900 + k) = OB k) (hlen : ρ.length = 129) :
    (∀ a b, a < 129 → b < 129 → A (zv_rc ρ a) = A (zv_rc ρ b) → a = b) ∧ (∀ a, a < 129 → sz ≤ A (zv_rc ρ a)) ∧ ∀ k, A (zv_rc ρ (900 + k)) = OB k := by
  obtain ⟨⟨-, -, a3, a4⟩, -⟩ := zy_rk1 hk
  refine ⟨fun a b ha hb h => a4 a b ha hb (hinj _ _ (a3 a ha) (a3 b hb) h), fun a ha => hge _ (a3 a ha), fun k => ?_⟩
  have : zv_rc ρ (900 + k) = 900 + k := by
    unfold zv_rc
    rw [zv_l_get, List.getElem?_eq_none (by omega)]
  rw [this]
  exact hOB k
theorem zw_lv {ls : Array Slot} {A A2 : Nat → Nat} {i : Int} (h : zv_lv 4 ls A (zw_lc i)) (e0 : A2 0 = A 0) (e1 : A2 1 = A 1) (e9 : A2 900 = A 900) : zv_lv 4 ls A2 (zw_lc i) := by
  obtain ⟨lv, h1, h2, h3⟩ := h
  refine ⟨lv, h1, h2, fun j v hj hv => ?_⟩
  obtain ⟨w, w1, w2⟩ := h3 j v hj hv
  refine ⟨w, ?_, w2⟩
  have nm : ∀ c, c < 5000 → A2 c = A c → zv_w A c w → zv_w A2 c w := fun c hc e h => by
    rw [zv_w_r h hc, ← e]
    exact zv_w_mk hc
  match j, hj with
  | 0, hj => cases hj; exact nm 900 (by decide) e9 w1
  | 1, hj => cases hj; exact nm 0 (by decide) e0 w1
  | 2, hj => cases hj; exact nm 1 (by decide) e1 w1
  | 3, hj => cases hj; exact w1
  | n + 4, hj => cases hj
theorem zw_one (hx : p.tables.exec = Jvm.exec) (hb : c.code = code) (hml : c.maxLocals = 4) (hX : va_X b Lx xs s s.heap) (hbl : b < s.heap.size) (hL : Lx ≤ 3072) (hOB0 : OB 0 = b) (hD : z_Dy s m args z_TB "StarTalesLaw" D z_cl DA (z_tys DA)) (hKX : z_KX OB s.heap.size s s.heap)
    (hend : ∀ pc H ls, decode code pc = .ok (.ireturn, 1) → W p l e room_1 s m args below meth c H [] 600000 7302250 Q (F0 m pc ls [.int 1])) (hbody : zw_body Lx xs Inv)
    {i : Int} (i0 : 0 ≤ i) (i1 : i ≤ 4000) (hnext : i + 6 ≤ Lx → ∀ (f : Nat → Int) (g : Nat → Int → Int) (A : Nat → Nat) (H : Heap) (locs : List Loc) (ls : Array Slot), Inv f g → (∀ a b, a < 129 → b < 129 → A a = A b → a = b) → (∀ a, a < 129 → s.heap.size ≤ A a) → (∀ k, A (900 + k) = OB k) →
      zv_rep D DA z_cl zyE A (zE_F f) (zE_G g) H → va_S (fun q => s.heap.size ≤ q) s.heap H locs → zv_lv 4 ls A (zw_lc (i + 6)) → W p l e room_1 s m args below meth c H locs 129 43489 Q (F0 m 18 ls [])) :
    ∀ (f : Nat → Int) (g : Nat → Int → Int) (A : Nat → Nat) (H : Heap) (locs : List Loc) (ls : Array Slot), Inv f g → (∀ a b, a < 129 → b < 129 → A a = A b → a = b) → (∀ a, a < 129 → s.heap.size ≤ A a) → (∀ k, A (900 + k) = OB k) →
      zv_rep D DA z_cl zyE A (zE_F f) (zE_G g) H → va_S (fun q => s.heap.size ≤ q) s.heap H locs → zv_lv 4 ls A (zw_lc i) → W p l e room_1 s m args below meth c H locs 129 43489 Q (F0 m 18 ls []) := by
  intro f g A H locs ls hI hinj hge hOB hrep hS hlv
  have hB : zw_B (fun pc L S F G => ∀ H2 locs2 ls2 stk2, zv_rep D DA z_cl zyE A F G H2 → zv_frm D z_cl zyE A H H2 → va_S (fun q => s.heap.size ≤ q) H H2 locs2 → zv_lv 4 ls2 A L → zv_st A S stk2 → W p l e room_1 s m args below meth c H2 locs2 129 43489 Q (F0 m pc ls2 stk2)) :=
    ⟨p, l, e, room_1, s, m, args, below, meth, c, Q, OB, D, DA, s.heap.size, A, H, z_TB, 129, 43489, ⟨hx, hb, hml, hD, z_ks12 z_TB (fun _ h => h) _ _ _ _ (fun j r h _ => by cases h)⟩, ⟨hS.1, zs_KX_p, zs_KX_p.2.1 s s.heap H hKX hS.1 (fun q h1 h2 => hS.2.1 q h1 h2), by decide, by decide, by decide, by decide⟩, ⟨zywE, hinj, hge, hOB⟩, fun _ _ _ _ _ => Iff.rfl⟩
  have hA9 : A 900 = b := (hOB 0).trans hOB0
  have hbA : ¬ s.heap.size ≤ b := by omega
  have hR : zw_R Lx xs (fun pc L S F G => ∀ H2 locs2 ls2 stk2, zv_rep D DA z_cl zyE A F G H2 → zv_frm D z_cl zyE A H H2 → va_S (fun q => s.heap.size ≤ q) H H2 locs2 → zv_lv 4 ls2 A L → zv_st A S stk2 → W p l e room_1 s m args below meth c H2 locs2 129 43489 Q (F0 m pc ls2 stk2)) := by
    refine ⟨fun pc L S F G hd k => ?_, fun pc L S F G a hd a0 a1 k => ?_, fun pc L F G hd => ?_⟩
    · intro H2 locs2 ls2 stk2 h1 h2 h3 h4 ⟨w, k', e1, e2, e3⟩
      have e2 : zv_w A 900 w := e2
      have e2 := zv_w_r e2 (by decide)
      rw [hA9] at e2
      subst e2; subst e1
      refine va_slen hx hb hX hbl hbA (zw_S (Nat.le_refl _) hS h3) hd (k H2 locs2 ls2 _ h1 h2 h3 h4 ⟨_, k', rfl, ⟨_, rfl, ?_⟩, e3⟩)
      exact Int32.toInt_ofNat_of_lt (by omega)
    · intro H2 locs2 ls2 stk2 h1 h2 h3 h4 ⟨w, k', e1, ⟨u, e2, e3⟩, w2, k2, e4, e5, e6⟩
      have e5 : zv_w A 900 w2 := e5
      have e5 := zv_w_r e5 (by decide)
      rw [hA9] at e5
      subst e5; subst e4; subst e2; subst e1
      have hcl : u.toNatClampNeg = a.toNat := by show u.toInt.toNat = _; omega
      have hin : vp_in u Lx := by
        intro hh
        rcases hh with hh | hh
        · have := Int32.lt_iff_toInt_lt.mp hh
          have e0 : (0 : Int32).toInt = 0 := rfl
          omega
        · rw [hcl] at hh
          omega
      refine va_sld hx hb hX hbl hbA (zw_S (Nat.le_refl _) hS h3) hin hd ?_
      rw [hcl]
      exact k H2 locs2 ls2 _ h1 h2 h3 h4 ⟨_, k2, rfl, ⟨_, rfl, rfl⟩, e6⟩
    · intro H2 locs2 ls2 stk2 h1 h2 h3 h4 ⟨w, k', e1, ⟨u, e2, e3⟩, e4⟩
      have e4 : k' = [] := e4
      have eu : u = 1 := Int32.toInt.inj (by rw [e3]; rfl)
      subst eu; subst e2; subst e4; subst e1
      have := W.forget (locs := []) (L := locs2) (fun q hq => h3.2.2 q hq) (hend pc H2 ls2 hd)
      exact W.widen (by decide) (by decide) this
  have main := hbody _ hB hR i f g hI i0
  revert hB hR
  intro hB hR
  have go : (fun pc L S F G => ∀ H2 locs2 ls2 stk2, zv_rep D DA z_cl zyE A F G H2 → zv_frm D z_cl zyE A H H2 → va_S (fun q => s.heap.size ≤ q) H H2 locs2 → zv_lv 4 ls2 A L → zv_st A S stk2 → W p l e room_1 s m args below meth c H2 locs2 129 43489 Q (F0 m pc ls2 stk2)) 18 (zw_lc i) [] (zE_F f) (zE_G g) := by
    refine zv_ild (ins := .iload_n 3) (len := 1) hB (by decide +kernel) rfl rfl ?_
    refine zv_ald (ins := .aload_n 0) (len := 1) hB (by decide +kernel) rfl rfl rfl ?_
    refine hR.1 _ _ _ _ _ (by decide +kernel) ?_
    refine zv_con (ins := .bipush 6) (len := 2) hB (by decide +kernel) rfl ?_
    refine zv_isub hB (by decide +kernel) (by omega) (by omega) ?_
    refine zv_cgt hB (off := 1575) (t := 1599) (by decide +kernel) rfl (fun hgt => ?_) fun hle => ?_
    · refine zv_con (ins := .iconst 1) (len := 1) hB (by decide +kernel) rfl ?_
      exact hR.2.2 _ _ _ _ (by decide +kernel)
    · refine main (by omega) (fun f' g' hI2 => ?_) (fun f' g' hI2 => ?_) fun f' g' hI2 => ?_
      · intro H2 locs2 ls2 stk2 h1 h2 h3 h4 h5
        have h5 : stk2 = [] := h5
        subst h5
        exact hnext (by omega) f' g' A H2 locs2 ls2 hI2 hinj hge hOB h1 (zw_S (Nat.le_refl _) hS h3) h4
      · intro H2 locs2 ls2 stk2 h1 h2 h3 h4 h5
        have h5 : stk2 = [] := h5
        subst h5
        obtain ⟨q1, q2, q3⟩ := zw_ren zE_rk1 hinj hge hOB rfl
        exact hnext (by omega) _ _ (fun c => A (zv_rc zE_s1 c)) H2 locs2 ls2 hI2 q1 q2 q3 (zE_sw1 h1) (zw_S (Nat.le_refl _) hS h3) (zw_lv h4 rfl rfl rfl)
      · intro H2 locs2 ls2 stk2 h1 h2 h3 h4 h5
        have h5 : stk2 = [] := h5
        subst h5
        obtain ⟨q1, q2, q3⟩ := zw_ren zE_rk2 hinj hge hOB rfl
        exact hnext (by omega) _ _ (fun c => A (zv_rc zE_s2 c)) H2 locs2 ls2 hI2 q1 q2 q3 (zE_sw2 h1) (zw_S (Nat.le_refl _) hS h3) (zw_lv h4 rfl rfl rfl)
  exact go H locs ls [] hrep zv_frm_rf ⟨Nat.le_refl _, fun _ _ _ => rfl, hS.2.2⟩ hlv rfl
theorem zw_loop (hx : p.tables.exec = Jvm.exec) (hb : c.code = code) (hml : c.maxLocals = 4) (hX : va_X b Lx xs s s.heap) (hbl : b < s.heap.size) (hL : Lx ≤ 3072) (hOB0 : OB 0 = b) (hD : z_Dy s m args z_TB "StarTalesLaw" D z_cl DA (z_tys DA)) (hKX : z_KX OB s.heap.size s s.heap)
    (hend : ∀ pc H ls, decode code pc = .ok (.ireturn, 1) → W p l e room_1 s m args below meth c H [] 600000 7302250 Q (F0 m pc ls [.int 1])) (hbody : zw_body Lx xs Inv) :
    ∀ (k : Nat) (i : Int), (Lx : Int) + 6 - i ≤ k → 0 ≤ i → i ≤ 4000 → ∀ (f : Nat → Int) (g : Nat → Int → Int) (A : Nat → Nat) (H : Heap) (locs : List Loc) (ls : Array Slot), Inv f g → (∀ a b, a < 129 → b < 129 → A a = A b → a = b) → (∀ a, a < 129 → s.heap.size ≤ A a) → (∀ k, A (900 + k) = OB k) →
      zv_rep D DA z_cl zyE A (zE_F f) (zE_G g) H → va_S (fun q => s.heap.size ≤ q) s.heap H locs → zv_lv 4 ls A (zw_lc i) → W p l e room_1 s m args below meth c H locs 129 43489 Q (F0 m 18 ls []) := by
  intro k
  induction k with
  | zero => exact fun i hk i0 i1 => zw_one hx hb hml hX hbl hL hOB0 hD hKX hend hbody i0 i1 fun h => by omega
  | succ k ih => exact fun i hk i0 i1 => zw_one hx hb hml hX hbl hL hOB0 hD hKX hend hbody i0 i1 fun h => ih (i + 6) (by omega) (by omega) (by omega)
end ZWLOOP
end
section
/-! The law from its entry, by what one call of it does. -/
section ZWLAW
variable {p : Program} {l : Launch} {e : Env} {s : State} {m : MethodId} {args : Array Value} {below : List Frame} {meth : Method} {c : Code} {Q : State → Prop}
variable {OB : Nat → Nat} {D : va_G} {DA : Nat → ClassId} {b Lx : Nat} {xs : Nat → Int32} {Inv : (Nat → Int) → (Nat → Int → Int) → Prop}
theorem zw_law (hx : p.tables.exec = Jvm.exec) (hb : c.code = code) (hml : c.maxLocals = 4) (hX : va_X b Lx xs s s.heap) (hbl : b < s.heap.size) (hL : Lx ≤ 3072) (hOB0 : OB 0 = b) (hD : z_Dy s m args z_TB "StarTalesLaw" D z_cl DA (z_tys DA)) (hKX : z_KX OB s.heap.size s s.heap)
    (hend : ∀ pc H ls, decode code pc = .ok (.ireturn, 1) → W p l e room_1 s m args below meth c H [] 600000 7302250 Q (F0 m pc ls [.int 1])) (hbody : zw_body Lx xs Inv) (hI0 : ∀ g, y0_g g → Inv y0_f0 g)
    {ls : Array Slot} (hls : z_ls 4 ls [.ref b, .int (Int32.ofNat Lx)] [(0, 0)]) : W p l e room_1 s m args below meth c s.heap [] 0 0 Q (F0 m 0 ls []) := by
  refine zy_start (TY := z_TYs) (PHI := z_PH) (PHS := z_PS) (FT := z_FT) (MT := z_MT) (SG := z_sL) (ce := z_eL) (mk := (129, 43489)) (nw := z_nw) (hpc := 18) (tx := 86) (tm := 128) (N := 3072) hx hb hml (by decide) hL hOB0 hD zs_KX_p hKX (z_kSL z_TB (fun _ h => h)) rfl z_phk z_oL hend z_kS (fun T H locs ls x m2 hH => ?_) hls
  intro U hU X
  have hsz : H.size ≤ s.heap.size + 129 := by rw [← hU]; exact X.heapSize
  obtain ⟨A, g, h1, h2, h3, h4, h5, h6, h7⟩ := y0_rep hH hsz
  obtain ⟨⟨-, -, hS⟩, -, ⟨lv, k1, k2, k3, k4, k5, k6⟩, -⟩ := hH
  have hA9 : A 900 = b := (h3 0).trans hOB0
  refine zw_loop hx hb hml hX hbl hL hOB0 hD hKX hend hbody (Lx + 6) 0 (by omega) (by decide) (by decide) y0_f0 g A H locs ls (hI0 g h7) h1 h2 h3 h6 hS ⟨lv, k1, k2, fun j v hj hv => ?_⟩ U hU X
  match j, hj with
  | 0, hj => cases hj; exact ⟨_, by show zv_w A 900 (.ref b); rw [← hA9]; exact zv_w_mk (by decide), k3⟩
  | 1, hj => cases hj; exact ⟨_, by show zv_w A 0 (.ref x); rw [← h4]; exact zv_w_mk (by decide), k4⟩
  | 2, hj => cases hj; exact ⟨_, by show zv_w A 1 (.ref m2); rw [← h5]; exact zv_w_mk (by decide), k5⟩
  | 3, hj => cases hj; exact ⟨_, ⟨0, rfl, rfl⟩, k6⟩
  | n + 4, hj => cases hj
end ZWLAW
end
section
/-! What holds between class and reference, call by call. -/
def zI (f : Nat → Int) (g : Nat → Int → Int) : Prop :=
  (∃ L, yl_R L (g 20) (g 22) (f 32) (f 30) (f 35) (f 34) (f 36) (g 17) (g 44) (g 18) (g 19) (f 83) (g 75) (g 76) (g 77) (g 78) (g 79)) ∧ (yk_sky (f 0) (f 1) (f 28) (f 2) (f 3) (f 4) (f 48) (g 0) (g 1) (g 2) (g 3) (g 4) (g 67)) ∧ (yk_sea (f 5) (g 5) (g 6) (g 67)) ∧ (yk_tape (f 6) (f 74) (g 7) (g 68)) ∧ ((f 88 = f 37 ∧ f 89 = f 38 ∧ yk_tl (f 37) (f 38) (g 26) (g 85) (g 86))) ∧ ((f 96 = f 73 ∧ (f 73 ≠ 0 → yk_sky (f 65) (f 66) (f 67) (f 68) (f 69) (f 70) (f 71) (g 60) (g 61) (g 62) (g 63) (g 64) (g 107) ∧ yk_sea (f 72) (g 66) (g 65) (g 107)))) ∧ (yw_so (g 28)) ∧ (yw_rg 264 (g 53)) ∧ (yw_rg 264 (g 55))
theorem zI.law {f : Nat → Int} {g : Nat → Int → Int} (h : zI f g) : ∃ L, yl_R L (g 20) (g 22) (f 32) (f 30) (f 35) (f 34) (f 36) (g 17) (g 44) (g 18) (g 19) (f 83) (g 75) (g 76) (g 77) (g 78) (g 79) := h.1
theorem zI.sky {f : Nat → Int} {g : Nat → Int → Int} (h : zI f g) : yk_sky (f 0) (f 1) (f 28) (f 2) (f 3) (f 4) (f 48) (g 0) (g 1) (g 2) (g 3) (g 4) (g 67) := h.2.1
theorem zI.sea {f : Nat → Int} {g : Nat → Int → Int} (h : zI f g) : yk_sea (f 5) (g 5) (g 6) (g 67) := h.2.2.1
theorem zI.tape {f : Nat → Int} {g : Nat → Int → Int} (h : zI f g) : yk_tape (f 6) (f 74) (g 7) (g 68) := h.2.2.2.1
theorem zI.tale {f : Nat → Int} {g : Nat → Int → Int} (h : zI f g) : (f 88 = f 37 ∧ f 89 = f 38 ∧ yk_tl (f 37) (f 38) (g 26) (g 85) (g 86)) := h.2.2.2.2.1
theorem zI.kept {f : Nat → Int} {g : Nat → Int → Int} (h : zI f g) : (f 96 = f 73 ∧ (f 73 ≠ 0 → yk_sky (f 65) (f 66) (f 67) (f 68) (f 69) (f 70) (f 71) (g 60) (g 61) (g 62) (g 63) (g 64) (g 107) ∧ yk_sea (f 72) (g 66) (g 65) (g 107))) := h.2.2.2.2.2.1
theorem zI.so {f : Nat → Int} {g : Nat → Int → Int} (h : zI f g) : yw_so (g 28) := h.2.2.2.2.2.2.1
theorem zI.le {f : Nat → Int} {g : Nat → Int → Int} (h : zI f g) : yw_rg 264 (g 53) := h.2.2.2.2.2.2.2.1
theorem zI.ln {f : Nat → Int} {g : Nat → Int → Int} (h : zI f g) : yw_rg 264 (g 55) := h.2.2.2.2.2.2.2.2
section ZWI
variable {good : Nat → List zNV → List zNV → List zNV → List (Int → Int) → Prop} {Lx : Nat} {xs : Nat → Int32} {i : Int} {S F : List zNV} {G : List (Int → Int)}
abbrev zw_ai (pc : Nat) (j : Int) : Prop := decode code pc = .ok (.aload_n 0, 1) ∧ decode code (pc + 1) = .ok (.iload_n 3, 1) ∧ decode code (pc + 2) = .ok (.iconst j, 1) ∧ decode code (pc + 3) = .ok (.iadd, 1) ∧ decode code (pc + 4) = .ok (.iaload, 1)
abbrev zw_a (xs : Nat → Int32) (i j : Int) : Int := (xs (i + j).toNat).toInt
theorem zw_arg (hB : zw_B good) (hR : zw_R Lx xs good) (i0 : 0 ≤ i) (i6 : i + 6 ≤ Lx) (hL : Lx ≤ 3072) {pc : Nat} {j : Int} (h : zw_ai pc j) (j0 : 0 ≤ j) (j5 : j ≤ 5) (hc : zv_cst lwK (.iconst j) 1 = some j) (k : good (pc + 5) (zw_lc i) (.inl (zw_a xs i j) :: S) F G) : good pc (zw_lc i) S F G := by
  obtain ⟨h1, h2, h3, h4, h5⟩ := h
  refine zv_ald (ins := .aload_n 0) (len := 1) hB h1 rfl rfl rfl ?_
  refine zv_ild (ins := .iload_n 3) (len := 1) hB h2 rfl rfl ?_
  refine zv_con (ins := .iconst j) (len := 1) hB h3 hc ?_
  refine zv_iadd hB h4 (by omega) (by omega) ?_
  exact hR.2.1 _ _ _ _ _ _ h5 (by omega) (by omega) k
theorem zw_tail (hB : zw_B good) (i0 : 0 ≤ i) (i6 : i + 6 ≤ Lx) (hL : Lx ≤ 3072) (k : good 18 (zw_lc (i + 6)) [] F G) : good 1593 (zw_lc i) [] F G := by
  refine zv_iinc (i := 3) (n := 6) hB (by decide +kernel) rfl rfl (by omega) (by omega) ?_
  exact zv_goto hB (off := -1578) (t := 18) (by decide +kernel) rfl k
end ZWI
theorem zI_0 {g : Nat → Int → Int} (h : y0_g g) : zI y0_f0 g := by
  obtain ⟨hz, h1, h2, h3, h4⟩ := h
  have z : ∀ q ∈ y0_Z, ∀ i : Int, 0 ≤ i → i < (q.2.2 : Nat) → g q.1 i = 0 := hz
  have hsea : yk_sea (y0_f0 5) (g 5) (g 6) (g 67) := by
    refine ⟨⟨by decide, by decide, h4 127 (by decide) (by decide) (by decide) (by decide) (by decide), fun s s0 s1 => ?_, fun y y0 y1 => ?_, fun x y x0 x1 y0 y1 => ?_⟩, fun s s0 s1 => ?_⟩
    · rw [h4 _ (by omega) (by omega) (by omega) (by omega) (by omega), z (5, 9, 6) (by decide) s s0 s1]
    · rw [z (6, 10, 12) (by decide) y y0 y1]; decide
    · rw [h4 _ (by omega) (by omega) (by omega) (by omega) (by omega), z (6, 10, 12) (by decide) y y0 y1, if_neg]
      unfold zi_tb
      simp
    · rw [z (5, 9, 6) (by decide) s s0 s1]; decide
  refine ⟨⟨(0, fun _ => 0, fun _ _ => none, fun _ _ => none), ⟨rfl, by decide, by decide, rfl⟩, fun q q0 q1 => absurd q1 (by have : y0_f0 32 = 0 := rfl; omega), 0, by decide, fun q q0 q1 => absurd q1 (by show ¬ q < (0 : Int); omega), ⟨⟨Or.inr ⟨rfl, fun q q0 q1 => absurd q1 (by show ¬ q < (0 : Int); omega)⟩, Or.inr ⟨rfl, fun q q0 q1 => absurd q1 (by show ¬ q < (0 : Int); omega)⟩⟩, ⟨fun _ q q0 q1 => absurd q1 (by show ¬ q < (0 : Int); omega), fun _ q q0 q1 => absurd q1 (by show ¬ q < (0 : Int); omega), fun _ q q0 q1 => absurd q1 (by show ¬ q < (0 : Int); omega)⟩, fun _ q q0 q1 => absurd q1 (by show ¬ q < (0 : Int); omega), fun _ q q0 q1 => absurd q1 (by show ¬ q < (0 : Int); omega)⟩, fun j j0 j1 => by omega⟩, ?_, hsea, ?_, ⟨rfl, rfl, ?_⟩, ⟨rfl, fun h => absurd rfl h⟩, fun k k0 k1 => ?_, fun j j0 j1 => ?_, fun j j0 j1 => ?_⟩
  · refine ⟨⟨⟨by decide, by decide⟩, h4 126 (by decide) (by decide) (by decide) (by decide) (by decide)⟩, ⟨by decide, h4 128 (by decide) (by decide) (by decide) (by decide) (by decide)⟩, h4 129 (by decide) (by decide) (by decide) (by decide) (by decide), ⟨⟨by decide, by decide⟩, h4 130 (by decide) (by decide) (by decide) (by decide) (by decide)⟩, ⟨by decide, h1⟩, ⟨by decide, h2⟩, ⟨by decide, h3⟩, fun i i0 i1 => ?_⟩
    rw [z (0, 3, 24) (by decide) i i0 i1, z (1, 4, 24) (by decide) i i0 i1, z (2, 5, 24) (by decide) i i0 i1, z (3, 6, 24) (by decide) i i0 i1, z (4, 7, 24) (by decide) i i0 i1, h4 i (by omega) (by omega) (by omega) (by omega) (by omega), h4 (24 + i) (by omega) (by omega) (by omega) (by omega) (by omega), h4 (48 + i) (by omega) (by omega) (by omega) (by omega) (by omega), h4 (72 + i) (by omega) (by omega) (by omega) (by omega) (by omega), h4 (96 + i) (by omega) (by omega) (by omega) (by omega) (by omega)]
    exact ⟨by decide, by decide, fun _ => ⟨rfl, rfl, rfl, rfl, rfl⟩⟩
  · refine ⟨rfl, by decide, by decide, fun j j0 j1 => ?_⟩
    rw [z (7, 12, 220) (by decide) j j0 j1, z (68, 87, 220) (by decide) j j0 j1]
    decide
  · refine ⟨by decide, fun i i0 i1 => absurd i1 (by show ¬ i < (0 : Int); omega), fun i j i0 i1 i2 => absurd i2 (by show ¬ j < (0 : Int); omega), ⟨by decide, by decide⟩, fun b => ⟨fun hb => ?_, fun ⟨i, i0, i1, _⟩ => absurd i1 (by show ¬ i < (0 : Int); omega)⟩, fun a a0 a1 => ⟨?_, fun b => ⟨fun hb => ?_, fun ⟨i, i0, i1, _⟩ => absurd i1 (by show ¬ i < (0 : Int); omega)⟩⟩⟩
    · have hb : zb 0 b = true := hb
      rw [zb_0] at hb; cases hb
    · rw [z (26, 38, 8) (by decide) a a0 a1]; exact ⟨by decide, by decide⟩
    · rw [z (26, 38, 8) (by decide) a a0 a1, zb_0] at hb; cases hb
  · rw [z (28, 40, 8) (by decide) k k0 k1]; decide
  · rw [z (53, 69, 264) (by decide) j j0 j1]; decide
  · rw [z (55, 71, 264) (by decide) j j0 j1]; decide
end
section
/-! Small steps of the law's cases. -/
section ZWH
variable {f : Nat → Int} {g : Nat → Int → Int}
theorem zI_tl (h : zI f g) : yk_tl (f 88) (f 89) (g 26) (g 85) (g 86) := by
  obtain ⟨h1, h2, h3⟩ := h.tale
  rw [h1, h2]; exact h3
theorem zI_sky (h : zI f g) {m2 : Int → Int} (e : ∀ j, 0 ≤ j → j < 422 → m2 j = g 67 j) : yk_sky (f 0) (f 1) (f 28) (f 2) (f 3) (f 4) (f 48) (g 0) (g 1) (g 2) (g 3) (g 4) m2 :=
  yk_sky_cg h.sky (fun _ _ _ => rfl) (fun _ _ _ => rfl) (fun _ _ _ => rfl) (fun _ _ _ => rfl) (fun _ _ _ => rfl) e
theorem zI_sea (h : zI f g) {m2 : Int → Int} (e : ∀ j, 0 ≤ j → j < 422 → m2 j = g 67 j) : yk_sea (f 5) (g 5) (g 6) m2 :=
  yk_sea_cg h.sea (fun _ _ _ => rfl) (fun _ _ _ => rfl) e
theorem zI_size (h : zI f g) {a b c : Int} (e1 : a = c) (e2 : b = (c : Int)) (hc : c = f 6 ∨ c = 0) : yk_tape a b (g 7) (g 68) := by
  obtain ⟨h1, h2, h3, h4⟩ := h.tape
  exact ⟨by omega, by omega, by omega, h4⟩
end ZWH
section ZWB
variable {good : Nat → List zNV → List zNV → List zNV → List (Int → Int) → Prop} {L S F : List zNV} {G : List (Int → Int)} {a : Int}
theorem zw_bool (hB : zw_B good) {pc : Nat} (h1 : decode code pc = .ok (.ifCond .eq 7, 3)) (h2 : decode code (pc + 3) = .ok (.iconst 1, 1)) (h3 : decode code (pc + 4) = .ok (.goto 4, 3)) (h4 : decode code (pc + 7) = .ok (.iconst 0, 1)) (t1 : z_to pc 7 = some (pc + 7)) (t2 : z_to (pc + 4) 4 = some (pc + 8)) (k : good (pc + 8) L (.inl (if a = 0 then 0 else 1) :: S) F G) : good pc L (.inl a :: S) F G := by
  refine zv_zeq hB h1 t1 (fun e => ?_) fun e => ?_
  · refine zv_con (ins := .iconst 0) (len := 1) hB h4 rfl ?_
    rw [if_pos e] at k
    exact k
  · refine zv_con (ins := .iconst 1) (len := 1) hB h2 rfl ?_
    refine zv_goto hB h3 t2 ?_
    rw [if_neg e] at k
    exact k
end ZWB
end
section
/-! The calls of the law, case by case. -/
theorem zc_star {good : Nat → List zNV → List zNV → List zNV → List (Int → Int) → Prop} {Lx : Nat} {xs : Nat → Int32} {i : Int} {f : Nat → Int} {g : Nat → Int → Int} (hL : Lx ≤ 3072) (hB : zw_B good) (hR : zw_R Lx xs good) (i0 : 0 ≤ i) (i6 : i + 6 ≤ Lx) (hI : zI f g) (k : ∀ f2 g2, zI f2 g2 → good 18 (zw_lc (i + 6)) [] (zE_F f2) (zE_G g2)) : good 204 (zw_lc i) [] (zE_F f) (zE_G g) := by
  obtain ⟨L, R⟩ := hI.law
  have tl := zI_tl hI
  obtain ⟨v0, v1, v2, v3, v4, v5, v6, v7, e1, e2, k', fr⟩ := yo_star (i := (zw_a xs i 1)) (c := (zw_a xs i 2)) (r := (zw_a xs i 3)) (b := (zw_a xs i 4)) (t := (f 0)) (co := (g 0)) (ro := (g 1)) (br := (g 2)) (wc := (g 3)) (wr := (g 4)) (m := (g 67)) hI.sky
  refine zv_ald (ins := .aload_n 1) (len := 1) hB (by decide +kernel) rfl rfl rfl ?_
  refine zw_arg (j := 1) hB hR i0 i6 hL (by decide +kernel) (by decide) (by decide) rfl ?_
  refine zw_arg (j := 2) hB hR i0 i6 hL (by decide +kernel) (by decide) (by decide) rfl ?_
  refine zw_arg (j := 3) hB hR i0 i6 hL (by decide +kernel) (by decide) (by decide) rfl ?_
  refine zw_arg (j := 4) hB hR i0 i6 hL (by decide +kernel) (by decide) (by decide) rfl ?_
  refine zv_cv (i := 13) (c := 0) (mm2 := zxm14) (rm2 := (1, 60)) (va := [.inl (zw_a xs i 1), .inl (zw_a xs i 2), .inl (zw_a xs i 3), .inl (zw_a xs i 4)]) (S := []) hB (zE_up (by rfl) (by rfl) (by rfl) (by rfl) (by rfl) (zo_X_star e1)) (by decide +kernel) rfl rfl (by decide) (by decide) rfl ?_
  refine zv_pop hB (by decide +kernel) rfl ?_
  refine zv_ald (ins := .aload_n 2) (len := 1) hB (by decide +kernel) rfl rfl rfl ?_
  refine zw_arg (j := 1) hB hR i0 i6 hL (by decide +kernel) (by decide) (by decide) rfl ?_
  refine zw_arg (j := 2) hB hR i0 i6 hL (by decide +kernel) (by decide) (by decide) rfl ?_
  refine zw_arg (j := 3) hB hR i0 i6 hL (by decide +kernel) (by decide) (by decide) rfl ?_
  refine zw_arg (j := 4) hB hR i0 i6 hL (by decide +kernel) (by decide) (by decide) rfl ?_
  refine zv_cv (i := 17) (c := 1) (mm2 := zxm199) (rm2 := (1, 60)) (va := [.inl (zw_a xs i 1), .inl (zw_a xs i 2), .inl (zw_a xs i 3), .inl (zw_a xs i 4)]) (S := []) hB (zE_up (by rfl) (by rfl) (by rfl) (by rfl) (by rfl) (zo_M_star e2)) (by decide +kernel) rfl rfl (by decide) (by decide) rfl ?_
  refine zv_pop hB (by decide +kernel) rfl ?_
  refine zv_goto hB (off := 1339) (t := 1593) (by decide +kernel) rfl ?_
  exact zw_tail hB i0 i6 hL (k _ _ ⟨hI.law, k', yk_sea_fr hI.sea fun j hj => fr j (by omega) (by omega), hI.tape, hI.tale, hI.kept, hI.so, hI.le, hI.ln⟩)
theorem zc_walk {good : Nat → List zNV → List zNV → List zNV → List (Int → Int) → Prop} {Lx : Nat} {xs : Nat → Int32} {i : Int} {f : Nat → Int} {g : Nat → Int → Int} (hL : Lx ≤ 3072) (hB : zw_B good) (hR : zw_R Lx xs good) (i0 : 0 ≤ i) (i6 : i + 6 ≤ Lx) (hI : zI f g) (k : ∀ f2 g2, zI f2 g2 → good 18 (zw_lc (i + 6)) [] (zE_F f2) (zE_G g2)) : good 257 (zw_lc i) [] (zE_F f) (zE_G g) := by
  obtain ⟨L, R⟩ := hI.law
  have tl := zI_tl hI
  obtain ⟨v0, v1, v2, v3, e1, e2, k', fr⟩ := yo_walk (i := (zw_a xs i 1)) (c := (zw_a xs i 2)) (r := (zw_a xs i 3)) (t := (f 0)) (wc := (g 3)) (wr := (g 4)) (m := (g 67)) hI.sky
  refine zv_ald (ins := .aload_n 1) (len := 1) hB (by decide +kernel) rfl rfl rfl ?_
  refine zw_arg (j := 1) hB hR i0 i6 hL (by decide +kernel) (by decide) (by decide) rfl ?_
  refine zw_arg (j := 2) hB hR i0 i6 hL (by decide +kernel) (by decide) (by decide) rfl ?_
  refine zw_arg (j := 3) hB hR i0 i6 hL (by decide +kernel) (by decide) (by decide) rfl ?_
  refine zv_cv (i := 18) (c := 0) (mm2 := zxm17) (rm2 := (1, 60)) (va := [.inl (zw_a xs i 1), .inl (zw_a xs i 2), .inl (zw_a xs i 3)]) (S := []) hB (zE_up (by rfl) (by rfl) (by rfl) (by rfl) (by rfl) (zo_X_walk e1)) (by decide +kernel) rfl rfl (by decide) (by decide) rfl ?_
  refine zv_pop hB (by decide +kernel) rfl ?_
  refine zv_ald (ins := .aload_n 2) (len := 1) hB (by decide +kernel) rfl rfl rfl ?_
  refine zw_arg (j := 1) hB hR i0 i6 hL (by decide +kernel) (by decide) (by decide) rfl ?_
  refine zw_arg (j := 2) hB hR i0 i6 hL (by decide +kernel) (by decide) (by decide) rfl ?_
  refine zw_arg (j := 3) hB hR i0 i6 hL (by decide +kernel) (by decide) (by decide) rfl ?_
  refine zv_cv (i := 22) (c := 1) (mm2 := zxm202) (rm2 := (2, 120)) (va := [.inl (zw_a xs i 1), .inl (zw_a xs i 2), .inl (zw_a xs i 3)]) (S := []) hB (zE_up (by rfl) (by rfl) (by rfl) (by rfl) (by rfl) (zo_M_walk e2)) (by decide +kernel) rfl rfl (by decide) (by decide) rfl ?_
  refine zv_pop hB (by decide +kernel) rfl ?_
  refine zv_goto hB (off := 1296) (t := 1593) (by decide +kernel) rfl ?_
  exact zw_tail hB i0 i6 hL (k _ _ ⟨hI.law, k', yk_sea_fr hI.sea fun j hj => fr j (by omega), hI.tape, hI.tale, hI.kept, hI.so, hI.le, hI.ln⟩)
theorem zc_gone {good : Nat → List zNV → List zNV → List zNV → List (Int → Int) → Prop} {Lx : Nat} {xs : Nat → Int32} {i : Int} {f : Nat → Int} {g : Nat → Int → Int} (hL : Lx ≤ 3072) (hB : zw_B good) (hR : zw_R Lx xs good) (i0 : 0 ≤ i) (i6 : i + 6 ≤ Lx) (hI : zI f g) (k : ∀ f2 g2, zI f2 g2 → good 18 (zw_lc (i + 6)) [] (zE_F f2) (zE_G g2)) : good 300 (zw_lc i) [] (zE_F f) (zE_G g) := by
  obtain ⟨L, R⟩ := hI.law
  have tl := zI_tl hI
  obtain ⟨v0, v1, v2, e1, e2, k', fr⟩ := yo_gone (i := (zw_a xs i 1)) (t := (f 0)) (m := (g 67)) hI.sky
  refine zv_ald (ins := .aload_n 1) (len := 1) hB (by decide +kernel) rfl rfl rfl ?_
  refine zw_arg (j := 1) hB hR i0 i6 hL (by decide +kernel) (by decide) (by decide) rfl ?_
  refine zv_cv (i := 23) (c := 0) (mm2 := zxm19) (rm2 := (1, 60)) (va := [.inl (zw_a xs i 1)]) (S := []) hB (zE_up (by rfl) (by rfl) (by rfl) (by rfl) (by rfl) (zo_X_gone e1)) (by decide +kernel) rfl rfl (by decide) (by decide) rfl ?_
  refine zv_pop hB (by decide +kernel) rfl ?_
  refine zv_ald (ins := .aload_n 2) (len := 1) hB (by decide +kernel) rfl rfl rfl ?_
  refine zw_arg (j := 1) hB hR i0 i6 hL (by decide +kernel) (by decide) (by decide) rfl ?_
  refine zv_cv (i := 27) (c := 1) (mm2 := zxm205) (rm2 := (2, 120)) (va := [.inl (zw_a xs i 1)]) (S := []) hB (zE_up (by rfl) (by rfl) (by rfl) (by rfl) (by rfl) (zo_M_gone e2)) (by decide +kernel) rfl rfl (by decide) (by decide) rfl ?_
  refine zv_pop hB (by decide +kernel) rfl ?_
  refine zv_goto hB (off := 1273) (t := 1593) (by decide +kernel) rfl ?_
  exact zw_tail hB i0 i6 hL (k _ _ ⟨hI.law, k', yk_sea_fr hI.sea fun j hj => fr j (by omega), hI.tape, hI.tale, hI.kept, hI.so, hI.le, hI.ln⟩)
theorem zc_hour {good : Nat → List zNV → List zNV → List zNV → List (Int → Int) → Prop} {Lx : Nat} {xs : Nat → Int32} {i : Int} {f : Nat → Int} {g : Nat → Int → Int} (hL : Lx ≤ 3072) (hB : zw_B good) (hR : zw_R Lx xs good) (i0 : 0 ≤ i) (i6 : i + 6 ≤ Lx) (hI : zI f g) (k : ∀ f2 g2, zI f2 g2 → good 18 (zw_lc (i + 6)) [] (zE_F f2) (zE_G g2)) : good 323 (zw_lc i) [] (zE_F f) (zE_G g) := by
  obtain ⟨L, R⟩ := hI.law
  have tl := zI_tl hI
  obtain ⟨v0, v1, v2, e1, e2, k', fr⟩ := yo_hour (n := (zw_a xs i 1)) (h := (f 1)) (m := (g 67)) hI.sky
  refine zv_ald (ins := .aload_n 1) (len := 1) hB (by decide +kernel) rfl rfl rfl ?_
  refine zw_arg (j := 1) hB hR i0 i6 hL (by decide +kernel) (by decide) (by decide) rfl ?_
  refine zv_cv (i := 28) (c := 0) (mm2 := zxm20) (rm2 := (1, 60)) (va := [.inl (zw_a xs i 1)]) (S := []) hB (zE_up (by rfl) (by rfl) (by rfl) (by rfl) (by rfl) (zo_X_hour e1)) (by decide +kernel) rfl rfl (by decide) (by decide) rfl ?_
  refine zv_pop hB (by decide +kernel) rfl ?_
  refine zv_ald (ins := .aload_n 2) (len := 1) hB (by decide +kernel) rfl rfl rfl ?_
  refine zw_arg (j := 1) hB hR i0 i6 hL (by decide +kernel) (by decide) (by decide) rfl ?_
  refine zv_cv (i := 31) (c := 1) (mm2 := zxm206) (rm2 := (1, 60)) (va := [.inl (zw_a xs i 1)]) (S := []) hB (zE_up (by rfl) (by rfl) (by rfl) (by rfl) (by rfl) (zo_M_hour e2)) (by decide +kernel) rfl rfl (by decide) (by decide) rfl ?_
  refine zv_pop hB (by decide +kernel) rfl ?_
  refine zv_goto hB (off := 1250) (t := 1593) (by decide +kernel) rfl ?_
  exact zw_tail hB i0 i6 hL (k _ _ ⟨hI.law, k', yk_sea_fr hI.sea fun j hj => fr j (by omega), hI.tape, hI.tale, hI.kept, hI.so, hI.le, hI.ln⟩)
theorem zc_clouds {good : Nat → List zNV → List zNV → List zNV → List (Int → Int) → Prop} {Lx : Nat} {xs : Nat → Int32} {i : Int} {f : Nat → Int} {g : Nat → Int → Int} (hL : Lx ≤ 3072) (hB : zw_B good) (hR : zw_R Lx xs good) (i0 : 0 ≤ i) (i6 : i + 6 ≤ Lx) (hI : zI f g) (k : ∀ f2 g2, zI f2 g2 → good 18 (zw_lc (i + 6)) [] (zE_F f2) (zE_G g2)) : good 346 (zw_lc i) [] (zE_F f) (zE_G g) := by
  obtain ⟨L, R⟩ := hI.law
  have tl := zI_tl hI
  obtain ⟨v0, v1, v2, e1, e2, k', fr⟩ := yo_clouds (n := (zw_a xs i 1)) (cl := (f 2)) (m := (g 67)) hI.sky
  refine zv_ald (ins := .aload_n 1) (len := 1) hB (by decide +kernel) rfl rfl rfl ?_
  refine zw_arg (j := 1) hB hR i0 i6 hL (by decide +kernel) (by decide) (by decide) rfl ?_
  refine zv_cv (i := 32) (c := 0) (mm2 := zxm21) (rm2 := (1, 60)) (va := [.inl (zw_a xs i 1)]) (S := []) hB (zE_up (by rfl) (by rfl) (by rfl) (by rfl) (by rfl) (zo_X_clouds e1)) (by decide +kernel) rfl rfl (by decide) (by decide) rfl ?_
  refine zv_pop hB (by decide +kernel) rfl ?_
  refine zv_ald (ins := .aload_n 2) (len := 1) hB (by decide +kernel) rfl rfl rfl ?_
  refine zw_arg (j := 1) hB hR i0 i6 hL (by decide +kernel) (by decide) (by decide) rfl ?_
  refine zv_cv (i := 35) (c := 1) (mm2 := zxm207) (rm2 := (1, 60)) (va := [.inl (zw_a xs i 1)]) (S := []) hB (zE_up (by rfl) (by rfl) (by rfl) (by rfl) (by rfl) (zo_M_clouds e2)) (by decide +kernel) rfl rfl (by decide) (by decide) rfl ?_
  refine zv_pop hB (by decide +kernel) rfl ?_
  refine zv_goto hB (off := 1227) (t := 1593) (by decide +kernel) rfl ?_
  exact zw_tail hB i0 i6 hL (k _ _ ⟨hI.law, k', yk_sea_fr hI.sea fun j hj => fr j (by omega), hI.tape, hI.tale, hI.kept, hI.so, hI.le, hI.ln⟩)
theorem zc_sight {good : Nat → List zNV → List zNV → List zNV → List (Int → Int) → Prop} {Lx : Nat} {xs : Nat → Int32} {i : Int} {f : Nat → Int} {g : Nat → Int → Int} (hL : Lx ≤ 3072) (hB : zw_B good) (hR : zw_R Lx xs good) (i0 : 0 ≤ i) (i6 : i + 6 ≤ Lx) (hI : zI f g) (k : ∀ f2 g2, zI f2 g2 → good 18 (zw_lc (i + 6)) [] (zE_F f2) (zE_G g2)) : good 369 (zw_lc i) [] (zE_F f) (zE_G g) := by
  obtain ⟨L, R⟩ := hI.law
  have tl := zI_tl hI
  obtain ⟨v0, v1, v2, v3, e1, e2, k', fr⟩ := yo_sight (n := (zw_a xs i 1)) (n2 := (zw_a xs i 2)) (sc := (f 3)) (sr := (f 4)) (m := (g 67)) hI.sky
  refine zv_ald (ins := .aload_n 1) (len := 1) hB (by decide +kernel) rfl rfl rfl ?_
  refine zw_arg (j := 1) hB hR i0 i6 hL (by decide +kernel) (by decide) (by decide) rfl ?_
  refine zw_arg (j := 2) hB hR i0 i6 hL (by decide +kernel) (by decide) (by decide) rfl ?_
  refine zv_cv (i := 36) (c := 0) (mm2 := zxm22) (rm2 := (1, 60)) (va := [.inl (zw_a xs i 1), .inl (zw_a xs i 2)]) (S := []) hB (zE_up (by rfl) (by rfl) (by rfl) (by rfl) (by rfl) (zo_X_sight e1)) (by decide +kernel) rfl rfl (by decide) (by decide) rfl ?_
  refine zv_pop hB (by decide +kernel) rfl ?_
  refine zv_ald (ins := .aload_n 2) (len := 1) hB (by decide +kernel) rfl rfl rfl ?_
  refine zw_arg (j := 1) hB hR i0 i6 hL (by decide +kernel) (by decide) (by decide) rfl ?_
  refine zw_arg (j := 2) hB hR i0 i6 hL (by decide +kernel) (by decide) (by decide) rfl ?_
  refine zv_cv (i := 40) (c := 1) (mm2 := zxm208) (rm2 := (1, 60)) (va := [.inl (zw_a xs i 1), .inl (zw_a xs i 2)]) (S := []) hB (zE_up (by rfl) (by rfl) (by rfl) (by rfl) (by rfl) (zo_M_sight e2)) (by decide +kernel) rfl rfl (by decide) (by decide) rfl ?_
  refine zv_pop hB (by decide +kernel) rfl ?_
  refine zv_goto hB (off := 1194) (t := 1593) (by decide +kernel) rfl ?_
  exact zw_tail hB i0 i6 hL (k _ _ ⟨hI.law, k', yk_sea_fr hI.sea fun j hj => fr j (by omega) (by omega), hI.tape, hI.tale, hI.kept, hI.so, hI.le, hI.ln⟩)
theorem zc_land {good : Nat → List zNV → List zNV → List zNV → List (Int → Int) → Prop} {Lx : Nat} {xs : Nat → Int32} {i : Int} {f : Nat → Int} {g : Nat → Int → Int} (hL : Lx ≤ 3072) (hB : zw_B good) (hR : zw_R Lx xs good) (i0 : 0 ≤ i) (i6 : i + 6 ≤ Lx) (hI : zI f g) (k : ∀ f2 g2, zI f2 g2 → good 18 (zw_lc (i + 6)) [] (zE_F f2) (zE_G g2)) : good 402 (zw_lc i) [] (zE_F f) (zE_G g) := by
  obtain ⟨L, R⟩ := hI.law
  have tl := zI_tl hI
  obtain ⟨v0, v1, v2, e1, e2, z', fr⟩ := yo_land (x := (zw_a xs i 1)) (y := (zw_a xs i 2)) (b := (if zw_a xs i 3 = 0 then 0 else 1)) (ts := (f 5)) (gp := (g 5)) (gl := (g 6)) (m := (g 67)) hI.sea
  refine zv_ald (ins := .aload_n 1) (len := 1) hB (by decide +kernel) rfl rfl rfl ?_
  refine zw_arg (j := 1) hB hR i0 i6 hL (by decide +kernel) (by decide) (by decide) rfl ?_
  refine zw_arg (j := 2) hB hR i0 i6 hL (by decide +kernel) (by decide) (by decide) rfl ?_
  refine zw_arg (j := 3) hB hR i0 i6 hL (by decide +kernel) (by decide) (by decide) rfl ?_
  refine zw_bool (pc := 418) hB (by decide +kernel) (by decide +kernel) (by decide +kernel) (by decide +kernel) rfl rfl ?_
  refine zv_cv (i := 41) (c := 0) (mm2 := zxm23) (rm2 := (2, 120)) (va := [.inl (zw_a xs i 1), .inl (zw_a xs i 2), .inl (if zw_a xs i 3 = 0 then 0 else 1)]) (S := []) hB (zE_up (by rfl) (by rfl) (by rfl) (by rfl) (by rfl) (zo_X_land e1)) (by decide +kernel) rfl rfl (by decide) (by decide) rfl ?_
  refine zv_pop hB (by decide +kernel) rfl ?_
  refine zv_ald (ins := .aload_n 2) (len := 1) hB (by decide +kernel) rfl rfl rfl ?_
  refine zw_arg (j := 1) hB hR i0 i6 hL (by decide +kernel) (by decide) (by decide) rfl ?_
  refine zw_arg (j := 2) hB hR i0 i6 hL (by decide +kernel) (by decide) (by decide) rfl ?_
  refine zw_arg (j := 3) hB hR i0 i6 hL (by decide +kernel) (by decide) (by decide) rfl ?_
  refine zw_bool (pc := 446) hB (by decide +kernel) (by decide +kernel) (by decide +kernel) (by decide +kernel) rfl rfl ?_
  refine zv_cv (i := 45) (c := 1) (mm2 := zxm209) (rm2 := (2, 120)) (va := [.inl (zw_a xs i 1), .inl (zw_a xs i 2), .inl (if zw_a xs i 3 = 0 then 0 else 1)]) (S := []) hB (zE_up (by rfl) (by rfl) (by rfl) (by rfl) (by rfl) (zo_M_land e2)) (by decide +kernel) rfl rfl (by decide) (by decide) rfl ?_
  refine zv_pop hB (by decide +kernel) rfl ?_
  refine zv_goto hB (off := 1135) (t := 1593) (by decide +kernel) rfl ?_
  exact zw_tail hB i0 i6 hL (k _ _ ⟨hI.law, yk_sky_fr hI.sky fun j hj => fr j (by omega), z', hI.tape, hI.tale, hI.kept, hI.so, hI.le, hI.ln⟩)
theorem zc_ship {good : Nat → List zNV → List zNV → List zNV → List (Int → Int) → Prop} {Lx : Nat} {xs : Nat → Int32} {i : Int} {f : Nat → Int} {g : Nat → Int → Int} (hL : Lx ≤ 3072) (hB : zw_B good) (hR : zw_R Lx xs good) (i0 : 0 ≤ i) (i6 : i + 6 ≤ Lx) (hI : zI f g) (k : ∀ f2 g2, zI f2 g2 → good 18 (zw_lc (i + 6)) [] (zE_F f2) (zE_G g2)) : good 461 (zw_lc i) [] (zE_F f) (zE_G g) := by
  obtain ⟨L, R⟩ := hI.law
  have tl := zI_tl hI
  obtain ⟨v0, v1, v2, v3, e1, e2, z', fr⟩ := yo_ship (s := (zw_a xs i 1)) (x := (zw_a xs i 2)) (y := (zw_a xs i 3)) (ts := (f 5)) (gl := (g 6)) (gp := (g 5)) (m := (g 67)) hI.sea
  refine zv_ald (ins := .aload_n 1) (len := 1) hB (by decide +kernel) rfl rfl rfl ?_
  refine zw_arg (j := 1) hB hR i0 i6 hL (by decide +kernel) (by decide) (by decide) rfl ?_
  refine zw_arg (j := 2) hB hR i0 i6 hL (by decide +kernel) (by decide) (by decide) rfl ?_
  refine zw_arg (j := 3) hB hR i0 i6 hL (by decide +kernel) (by decide) (by decide) rfl ?_
  refine zv_cv (i := 46) (c := 0) (mm2 := zxm28) (rm2 := (2, 120)) (va := [.inl (zw_a xs i 1), .inl (zw_a xs i 2), .inl (zw_a xs i 3)]) (S := []) hB (zE_up (by rfl) (by rfl) (by rfl) (by rfl) (by rfl) (zo_X_ship e1)) (by decide +kernel) rfl rfl (by decide) (by decide) rfl ?_
  refine zv_pop hB (by decide +kernel) rfl ?_
  refine zv_ald (ins := .aload_n 2) (len := 1) hB (by decide +kernel) rfl rfl rfl ?_
  refine zw_arg (j := 1) hB hR i0 i6 hL (by decide +kernel) (by decide) (by decide) rfl ?_
  refine zw_arg (j := 2) hB hR i0 i6 hL (by decide +kernel) (by decide) (by decide) rfl ?_
  refine zw_arg (j := 3) hB hR i0 i6 hL (by decide +kernel) (by decide) (by decide) rfl ?_
  refine zv_cv (i := 49) (c := 1) (mm2 := zxm211) (rm2 := (1, 60)) (va := [.inl (zw_a xs i 1), .inl (zw_a xs i 2), .inl (zw_a xs i 3)]) (S := []) hB (zE_up (by rfl) (by rfl) (by rfl) (by rfl) (by rfl) (zo_M_ship e2)) (by decide +kernel) rfl rfl (by decide) (by decide) rfl ?_
  refine zv_pop hB (by decide +kernel) rfl ?_
  refine zv_goto hB (off := 1092) (t := 1593) (by decide +kernel) rfl ?_
  exact zw_tail hB i0 i6 hL (k _ _ ⟨hI.law, yk_sky_fr hI.sky fun j hj => fr j (by omega), z', hI.tape, hI.tale, hI.kept, hI.so, hI.le, hI.ln⟩)
theorem zc_feed {good : Nat → List zNV → List zNV → List zNV → List (Int → Int) → Prop} {Lx : Nat} {xs : Nat → Int32} {i : Int} {f : Nat → Int} {g : Nat → Int → Int} (hL : Lx ≤ 3072) (hB : zw_B good) (hR : zw_R Lx xs good) (i0 : 0 ≤ i) (i6 : i + 6 ≤ Lx) (hI : zI f g) (k : ∀ f2 g2, zI f2 g2 → good 18 (zw_lc (i + 6)) [] (zE_F f2) (zE_G g2)) : good 504 (zw_lc i) [] (zE_F f) (zE_G g) := by
  obtain ⟨L, R⟩ := hI.law
  have tl := zI_tl hI
  obtain ⟨v0, v1, v2, v3, v4, e1, e2, p'⟩ := yo_feed (a := (zw_a xs i 1)) (b := (zw_a xs i 2)) (c := (zw_a xs i 3)) (d := (zw_a xs i 4)) (e := (zw_a xs i 5)) (n := (f 6)) (T := (g 7)) (n2 := (f 74)) (M := (g 68)) hI.tape
  refine zv_ald (ins := .aload_n 1) (len := 1) hB (by decide +kernel) rfl rfl rfl ?_
  refine zw_arg (j := 1) hB hR i0 i6 hL (by decide +kernel) (by decide) (by decide) rfl ?_
  refine zw_arg (j := 2) hB hR i0 i6 hL (by decide +kernel) (by decide) (by decide) rfl ?_
  refine zw_arg (j := 3) hB hR i0 i6 hL (by decide +kernel) (by decide) (by decide) rfl ?_
  refine zw_arg (j := 4) hB hR i0 i6 hL (by decide +kernel) (by decide) (by decide) rfl ?_
  refine zw_arg (j := 5) hB hR i0 i6 hL (by decide +kernel) (by decide) (by decide) rfl ?_
  refine zv_cv (i := 50) (c := 0) (mm2 := zxm32) (rm2 := (1, 60)) (va := [.inl (zw_a xs i 1), .inl (zw_a xs i 2), .inl (zw_a xs i 3), .inl (zw_a xs i 4), .inl (zw_a xs i 5)]) (S := []) hB (zE_up (by rfl) (by rfl) (by rfl) (by rfl) (by rfl) (zo_X_feed e1)) (by decide +kernel) rfl rfl (by decide) (by decide) rfl ?_
  refine zv_pop hB (by decide +kernel) rfl ?_
  refine zv_ald (ins := .aload_n 2) (len := 1) hB (by decide +kernel) rfl rfl rfl ?_
  refine zw_arg (j := 1) hB hR i0 i6 hL (by decide +kernel) (by decide) (by decide) rfl ?_
  refine zw_arg (j := 2) hB hR i0 i6 hL (by decide +kernel) (by decide) (by decide) rfl ?_
  refine zw_arg (j := 3) hB hR i0 i6 hL (by decide +kernel) (by decide) (by decide) rfl ?_
  refine zw_arg (j := 4) hB hR i0 i6 hL (by decide +kernel) (by decide) (by decide) rfl ?_
  refine zw_arg (j := 5) hB hR i0 i6 hL (by decide +kernel) (by decide) (by decide) rfl ?_
  refine zv_cv (i := 54) (c := 1) (mm2 := zxm213) (rm2 := (1, 60)) (va := [.inl (zw_a xs i 1), .inl (zw_a xs i 2), .inl (zw_a xs i 3), .inl (zw_a xs i 4), .inl (zw_a xs i 5)]) (S := []) hB (zE_up (by rfl) (by rfl) (by rfl) (by rfl) (by rfl) (zo_M_feed e2)) (by decide +kernel) rfl rfl (by decide) (by decide) rfl ?_
  refine zv_pop hB (by decide +kernel) rfl ?_
  refine zv_goto hB (off := 1029) (t := 1593) (by decide +kernel) rfl ?_
  exact zw_tail hB i0 i6 hL (k _ _ ⟨hI.law, hI.sky, hI.sea, p', hI.tale, hI.kept, hI.so, hI.le, hI.ln⟩)
theorem zc_starIs {good : Nat → List zNV → List zNV → List zNV → List (Int → Int) → Prop} {Lx : Nat} {xs : Nat → Int32} {i : Int} {f : Nat → Int} {g : Nat → Int → Int} (hL : Lx ≤ 3072) (hB : zw_B good) (hR : zw_R Lx xs good) (i0 : 0 ≤ i) (i6 : i + 6 ≤ Lx) (hI : zI f g) (k : ∀ f2 g2, zI f2 g2 → good 18 (zw_lc (i + 6)) [] (zE_F f2) (zE_G g2)) : good 613 (zw_lc i) [] (zE_F f) (zE_G g) := by
  obtain ⟨L, R⟩ := hI.law
  have tl := zI_tl hI
  obtain ⟨v0, e1, e2⟩ := yo_starIs (i := (zw_a xs i 1)) (w := (zw_a xs i 2)) (t := (f 0)) (h := (f 1)) (co := (g 0)) (ro := (g 1)) (br := (g 2)) (wc := (g 3)) (wr := (g 4)) (m := (g 67)) hI.sky
  refine zv_ald (ins := .aload_n 1) (len := 1) hB (by decide +kernel) rfl rfl rfl ?_
  refine zw_arg (j := 1) hB hR i0 i6 hL (by decide +kernel) (by decide) (by decide) rfl ?_
  refine zw_arg (j := 2) hB hR i0 i6 hL (by decide +kernel) (by decide) (by decide) rfl ?_
  refine zv_cv (i := 64) (c := 0) (mm2 := zxm81) (rm2 := (1, 60)) (va := [.inl (zw_a xs i 1), .inl (zw_a xs i 2)]) (S := []) hB (zE_up (by rfl) (by rfl) (by rfl) (by rfl) (by rfl) (zo_X_starIs e1)) (by decide +kernel) rfl rfl (by decide) (by decide) rfl ?_
  refine zv_pop hB (by decide +kernel) rfl ?_
  refine zv_ald (ins := .aload_n 2) (len := 1) hB (by decide +kernel) rfl rfl rfl ?_
  refine zw_arg (j := 1) hB hR i0 i6 hL (by decide +kernel) (by decide) (by decide) rfl ?_
  refine zw_arg (j := 2) hB hR i0 i6 hL (by decide +kernel) (by decide) (by decide) rfl ?_
  refine zv_cv (i := 68) (c := 1) (mm2 := zxm237) (rm2 := (2, 120)) (va := [.inl (zw_a xs i 1), .inl (zw_a xs i 2)]) (S := []) hB (zE_up (by rfl) (by rfl) (by rfl) (by rfl) (by rfl) (zo_M_starIs e2)) (by decide +kernel) rfl rfl (by decide) (by decide) rfl ?_
  refine zv_pop hB (by decide +kernel) rfl ?_
  refine zv_goto hB (off := 950) (t := 1593) (by decide +kernel) rfl ?_
  exact zw_tail hB i0 i6 hL (k _ _ ⟨hI.law, hI.sky, hI.sea, hI.tape, hI.tale, hI.kept, hI.so, hI.le, hI.ln⟩)
end
section
/-! The calls of the law, case by case. -/
theorem zc_seen {good : Nat → List zNV → List zNV → List zNV → List (Int → Int) → Prop} {Lx : Nat} {xs : Nat → Int32} {i : Int} {f : Nat → Int} {g : Nat → Int → Int} (hL : Lx ≤ 3072) (hB : zw_B good) (hR : zw_R Lx xs good) (i0 : 0 ≤ i) (i6 : i + 6 ≤ Lx) (hI : zI f g) (k : ∀ f2 g2, zI f2 g2 → good 18 (zw_lc (i + 6)) [] (zE_F f2) (zE_G g2)) : good 646 (zw_lc i) [] (zE_F f) (zE_G g) := by
  obtain ⟨L, R⟩ := hI.law
  have tl := zI_tl hI
  obtain ⟨v0, v1, v2, v3, v4, v5, v6, v7, v8, v9, v10, v11, e1, e2⟩ := yo_seen (x := (zw_a xs i 1)) (y := (zw_a xs i 2)) (f3 := (f 25)) (f4 := (f 26)) (f5 := (f 27)) (h := (f 1)) (u := (f 28)) (f8 := (f 29)) (t := (f 0)) (sc := (f 3)) (sr := (f 4)) (cl := (f 2)) (tS := (f 30)) (f14 := (f 31)) (nc := (f 32)) (f16 := (f 33)) (sP := (f 34)) (g0 := (g 15)) (g1 := (g 16)) (co := (g 0)) (ro := (g 1)) (br := (g 2)) (kd := (g 17)) (hf := (g 18)) (to := (g 19)) (K := (g 20)) (g9 := (g 21)) (V := (g 22)) (mc := (f 83)) (m := (g 67)) (mk := (g 76)) (g2 := (g 80)) (mh := (g 78)) (mt := (g 79)) (C := (g 75)) (g6 := (g 81)) R hI.sky
  refine zv_ald (ins := .aload_n 1) (len := 1) hB (by decide +kernel) rfl rfl rfl ?_
  refine zw_arg (j := 1) hB hR i0 i6 hL (by decide +kernel) (by decide) (by decide) rfl ?_
  refine zw_arg (j := 2) hB hR i0 i6 hL (by decide +kernel) (by decide) (by decide) rfl ?_
  refine zv_cv (i := 69) (c := 0) (mm2 := zxm83) (rm2 := (5, 300)) (va := [.inl (zw_a xs i 1), .inl (zw_a xs i 2)]) (S := []) hB (zE_up (by rfl) (by rfl) (by rfl) (by rfl) (by rfl) (zo_X_seen e1)) (by decide +kernel) rfl rfl (by decide) (by decide) rfl ?_
  refine zv_pop hB (by decide +kernel) rfl ?_
  refine zv_ald (ins := .aload_n 2) (len := 1) hB (by decide +kernel) rfl rfl rfl ?_
  refine zw_arg (j := 1) hB hR i0 i6 hL (by decide +kernel) (by decide) (by decide) rfl ?_
  refine zw_arg (j := 2) hB hR i0 i6 hL (by decide +kernel) (by decide) (by decide) rfl ?_
  refine zv_cv (i := 72) (c := 1) (mm2 := zxm239) (rm2 := (5, 300)) (va := [.inl (zw_a xs i 1), .inl (zw_a xs i 2)]) (S := []) hB (zE_up (by rfl) (by rfl) (by rfl) (by rfl) (by rfl) (zo_M_seen e2)) (by decide +kernel) rfl rfl (by decide) (by decide) rfl ?_
  refine zv_pop hB (by decide +kernel) rfl ?_
  refine zv_goto hB (off := 917) (t := 1593) (by decide +kernel) rfl ?_
  exact zw_tail hB i0 i6 hL (k _ _ ⟨hI.law, hI.sky, hI.sea, hI.tape, hI.tale, hI.kept, hI.so, hI.le, hI.ln⟩)
theorem zc_line {good : Nat → List zNV → List zNV → List zNV → List (Int → Int) → Prop} {Lx : Nat} {xs : Nat → Int32} {i : Int} {f : Nat → Int} {g : Nat → Int → Int} (hL : Lx ≤ 3072) (hB : zw_B good) (hR : zw_R Lx xs good) (i0 : 0 ≤ i) (i6 : i + 6 ≤ Lx) (hI : zI f g) (k : ∀ f2 g2, zI f2 g2 → good 18 (zw_lc (i + 6)) [] (zE_F f2) (zE_G g2)) : good 679 (zw_lc i) [] (zE_F f) (zE_G g) := by
  obtain ⟨L, R⟩ := hI.law
  have tl := zI_tl hI
  obtain ⟨v0, v1, v2, v3, v4, v5, v6, v7, v8, v9, v10, v11, v12, v13, v14, v15, e1, e2⟩ := yo_line (x := (zw_a xs i 1)) (y := (zw_a xs i 2)) (a := (zw_a xs i 3)) (b := (zw_a xs i 4)) (t := (f 0)) (f4 := (f 25)) (f5 := (f 26)) (f6 := (f 27)) (h := (f 1)) (u := (f 28)) (f9 := (f 29)) (sc := (f 3)) (sr := (f 4)) (cl := (f 2)) (tS := (f 30)) (f14 := (f 31)) (nc := (f 32)) (f16 := (f 33)) (sP := (f 34)) (tL := (f 35)) (lP := (f 36)) (g0 := (g 15)) (g1 := (g 16)) (co := (g 0)) (ro := (g 1)) (br := (g 2)) (kd := (g 17)) (hf := (g 18)) (to := (g 19)) (K := (g 20)) (g9 := (g 21)) (V := (g 22)) (g11 := (g 23)) (g12 := (g 24)) (mc := (f 83)) (f1 := (f 84)) (m := (g 67)) (mk := (g 76)) (g2 := (g 80)) (mh := (g 78)) (mt := (g 79)) (C := (g 75)) (g6 := (g 81)) (g7 := (g 82)) R hI.sky
  refine zv_ald (ins := .aload_n 1) (len := 1) hB (by decide +kernel) rfl rfl rfl ?_
  refine zw_arg (j := 1) hB hR i0 i6 hL (by decide +kernel) (by decide) (by decide) rfl ?_
  refine zw_arg (j := 2) hB hR i0 i6 hL (by decide +kernel) (by decide) (by decide) rfl ?_
  refine zw_arg (j := 3) hB hR i0 i6 hL (by decide +kernel) (by decide) (by decide) rfl ?_
  refine zw_arg (j := 4) hB hR i0 i6 hL (by decide +kernel) (by decide) (by decide) rfl ?_
  refine zv_cv (i := 73) (c := 0) (mm2 := zxm95) (rm2 := (6, 360)) (va := [.inl (zw_a xs i 1), .inl (zw_a xs i 2), .inl (zw_a xs i 3), .inl (zw_a xs i 4)]) (S := []) hB (zE_up (by rfl) (by rfl) (by rfl) (by rfl) (by rfl) (zo_X_line e1)) (by decide +kernel) rfl rfl (by decide) (by decide) rfl ?_
  refine zv_pop hB (by decide +kernel) rfl ?_
  refine zv_ald (ins := .aload_n 2) (len := 1) hB (by decide +kernel) rfl rfl rfl ?_
  refine zw_arg (j := 1) hB hR i0 i6 hL (by decide +kernel) (by decide) (by decide) rfl ?_
  refine zw_arg (j := 2) hB hR i0 i6 hL (by decide +kernel) (by decide) (by decide) rfl ?_
  refine zw_arg (j := 3) hB hR i0 i6 hL (by decide +kernel) (by decide) (by decide) rfl ?_
  refine zw_arg (j := 4) hB hR i0 i6 hL (by decide +kernel) (by decide) (by decide) rfl ?_
  refine zv_cv (i := 77) (c := 1) (mm2 := zxm251) (rm2 := (6, 360)) (va := [.inl (zw_a xs i 1), .inl (zw_a xs i 2), .inl (zw_a xs i 3), .inl (zw_a xs i 4)]) (S := []) hB (zE_up (by rfl) (by rfl) (by rfl) (by rfl) (by rfl) (zo_M_line e2)) (by decide +kernel) rfl rfl (by decide) (by decide) rfl ?_
  refine zv_pop hB (by decide +kernel) rfl ?_
  refine zv_goto hB (off := 864) (t := 1593) (by decide +kernel) rfl ?_
  exact zw_tail hB i0 i6 hL (k _ _ ⟨hI.law, hI.sky, hI.sea, hI.tape, hI.tale, hI.kept, hI.so, hI.le, hI.ln⟩)
theorem zc_sky {good : Nat → List zNV → List zNV → List zNV → List (Int → Int) → Prop} {Lx : Nat} {xs : Nat → Int32} {i : Int} {f : Nat → Int} {g : Nat → Int → Int} (hL : Lx ≤ 3072) (hB : zw_B good) (hR : zw_R Lx xs good) (i0 : 0 ≤ i) (i6 : i + 6 ≤ Lx) (hI : zI f g) (k : ∀ f2 g2, zI f2 g2 → good 18 (zw_lc (i + 6)) [] (zE_F f2) (zE_G g2)) : good 732 (zw_lc i) [] (zE_F f) (zE_G g) := by
  obtain ⟨L, R⟩ := hI.law
  have tl := zI_tl hI
  obtain ⟨v0, v1, v2, v3, v4, v5, v6, v7, v8, v9, v10, v11, v12, v13, v14, v15, v16, v17, e1, e2⟩ := yo_sky (x := (zw_a xs i 1)) (y := (zw_a xs i 2)) (a := (zw_a xs i 3)) (f3 := (f 25)) (f4 := (f 26)) (f5 := (f 27)) (h := (f 1)) (u := (f 28)) (f8 := (f 29)) (t := (f 0)) (sc := (f 3)) (sr := (f 4)) (cl := (f 2)) (tS := (f 30)) (f14 := (f 31)) (nc := (f 32)) (f16 := (f 33)) (sP := (f 34)) (tL := (f 35)) (lP := (f 36)) (g0 := (g 15)) (g1 := (g 16)) (co := (g 0)) (ro := (g 1)) (br := (g 2)) (kd := (g 17)) (hf := (g 18)) (to := (g 19)) (K := (g 20)) (g9 := (g 21)) (V := (g 22)) (g11 := (g 23)) (g12 := (g 24)) (mc := (f 83)) (f1 := (f 84)) (f2 := (f 85)) (f33 := (f 86)) (m := (g 67)) (mk := (g 76)) (g2 := (g 80)) (mh := (g 78)) (mt := (g 79)) (C := (g 75)) (g6 := (g 81)) (g7 := (g 82)) R hI.sky
  refine zv_ald (ins := .aload_n 1) (len := 1) hB (by decide +kernel) rfl rfl rfl ?_
  refine zw_arg (j := 1) hB hR i0 i6 hL (by decide +kernel) (by decide) (by decide) rfl ?_
  refine zw_arg (j := 2) hB hR i0 i6 hL (by decide +kernel) (by decide) (by decide) rfl ?_
  refine zw_arg (j := 3) hB hR i0 i6 hL (by decide +kernel) (by decide) (by decide) rfl ?_
  refine zv_cv (i := 78) (c := 0) (mm2 := zxm100) (rm2 := (6, 360)) (va := [.inl (zw_a xs i 1), .inl (zw_a xs i 2), .inl (zw_a xs i 3)]) (S := []) hB (zE_up (by rfl) (by rfl) (by rfl) (by rfl) (by rfl) (zo_X_sky e1)) (by decide +kernel) rfl rfl (by decide) (by decide) rfl ?_
  refine zv_pop hB (by decide +kernel) rfl ?_
  refine zv_ald (ins := .aload_n 2) (len := 1) hB (by decide +kernel) rfl rfl rfl ?_
  refine zw_arg (j := 1) hB hR i0 i6 hL (by decide +kernel) (by decide) (by decide) rfl ?_
  refine zw_arg (j := 2) hB hR i0 i6 hL (by decide +kernel) (by decide) (by decide) rfl ?_
  refine zw_arg (j := 3) hB hR i0 i6 hL (by decide +kernel) (by decide) (by decide) rfl ?_
  refine zv_cv (i := 82) (c := 1) (mm2 := zxm254) (rm2 := (6, 360)) (va := [.inl (zw_a xs i 1), .inl (zw_a xs i 2), .inl (zw_a xs i 3)]) (S := []) hB (zE_up (by rfl) (by rfl) (by rfl) (by rfl) (by rfl) (zo_M_sky e2)) (by decide +kernel) rfl rfl (by decide) (by decide) rfl ?_
  refine zv_pop hB (by decide +kernel) rfl ?_
  refine zv_goto hB (off := 821) (t := 1593) (by decide +kernel) rfl ?_
  exact zw_tail hB i0 i6 hL (k _ _ ⟨hI.law, hI.sky, hI.sea, hI.tape, hI.tale, hI.kept, hI.so, hI.le, hI.ln⟩)
theorem zc_figure {good : Nat → List zNV → List zNV → List zNV → List (Int → Int) → Prop} {Lx : Nat} {xs : Nat → Int32} {i : Int} {f : Nat → Int} {g : Nat → Int → Int} (hL : Lx ≤ 3072) (hB : zw_B good) (hR : zw_R Lx xs good) (i0 : 0 ≤ i) (i6 : i + 6 ≤ Lx) (hI : zI f g) (k : ∀ f2 g2, zI f2 g2 → good 18 (zw_lc (i + 6)) [] (zE_F f2) (zE_G g2)) : good 775 (zw_lc i) [] (zE_F f) (zE_G g) := by
  obtain ⟨L, R⟩ := hI.law
  have tl := zI_tl hI
  obtain ⟨v0, v1, v2, v3, v4, v5, v6, v7, v8, v9, v10, v11, v12, v13, v14, v15, e1, e2⟩ := yo_figure (x := (zw_a xs i 1)) (y := (zw_a xs i 2)) (a := (zw_a xs i 3)) (t := (f 0)) (f4 := (f 25)) (f5 := (f 26)) (f6 := (f 27)) (h := (f 1)) (u := (f 28)) (f9 := (f 29)) (sc := (f 3)) (sr := (f 4)) (cl := (f 2)) (tS := (f 30)) (f14 := (f 31)) (nc := (f 32)) (f16 := (f 33)) (sP := (f 34)) (tL := (f 35)) (lP := (f 36)) (g0 := (g 15)) (g1 := (g 16)) (co := (g 0)) (ro := (g 1)) (br := (g 2)) (kd := (g 17)) (hf := (g 18)) (to := (g 19)) (K := (g 20)) (g9 := (g 21)) (V := (g 22)) (g11 := (g 23)) (g12 := (g 24)) (mc := (f 83)) (f1 := (f 84)) (m := (g 67)) (mk := (g 76)) (g2 := (g 80)) (mh := (g 78)) (mt := (g 79)) (C := (g 75)) (g6 := (g 81)) (g7 := (g 82)) R hI.sky
  refine zv_ald (ins := .aload_n 1) (len := 1) hB (by decide +kernel) rfl rfl rfl ?_
  refine zw_arg (j := 1) hB hR i0 i6 hL (by decide +kernel) (by decide) (by decide) rfl ?_
  refine zw_arg (j := 2) hB hR i0 i6 hL (by decide +kernel) (by decide) (by decide) rfl ?_
  refine zw_arg (j := 3) hB hR i0 i6 hL (by decide +kernel) (by decide) (by decide) rfl ?_
  refine zv_cv (i := 83) (c := 0) (mm2 := zxm110) (rm2 := (6, 360)) (va := [.inl (zw_a xs i 1), .inl (zw_a xs i 2), .inl (zw_a xs i 3)]) (S := []) hB (zE_up (by rfl) (by rfl) (by rfl) (by rfl) (by rfl) (zo_X_figure e1)) (by decide +kernel) rfl rfl (by decide) (by decide) rfl ?_
  refine zv_pop hB (by decide +kernel) rfl ?_
  refine zv_ald (ins := .aload_n 2) (len := 1) hB (by decide +kernel) rfl rfl rfl ?_
  refine zw_arg (j := 1) hB hR i0 i6 hL (by decide +kernel) (by decide) (by decide) rfl ?_
  refine zw_arg (j := 2) hB hR i0 i6 hL (by decide +kernel) (by decide) (by decide) rfl ?_
  refine zw_arg (j := 3) hB hR i0 i6 hL (by decide +kernel) (by decide) (by decide) rfl ?_
  refine zv_cv (i := 86) (c := 1) (mm2 := zxm262) (rm2 := (6, 360)) (va := [.inl (zw_a xs i 1), .inl (zw_a xs i 2), .inl (zw_a xs i 3)]) (S := []) hB (zE_up (by rfl) (by rfl) (by rfl) (by rfl) (by rfl) (zo_M_figure e2)) (by decide +kernel) rfl rfl (by decide) (by decide) rfl ?_
  refine zv_pop hB (by decide +kernel) rfl ?_
  refine zv_goto hB (off := 778) (t := 1593) (by decide +kernel) rfl ?_
  exact zw_tail hB i0 i6 hL (k _ _ ⟨hI.law, hI.sky, hI.sea, hI.tape, hI.tale, hI.kept, hI.so, hI.le, hI.ln⟩)
theorem zc_matched {good : Nat → List zNV → List zNV → List zNV → List (Int → Int) → Prop} {Lx : Nat} {xs : Nat → Int32} {i : Int} {f : Nat → Int} {g : Nat → Int → Int} (hL : Lx ≤ 3072) (hB : zw_B good) (hR : zw_R Lx xs good) (i0 : 0 ≤ i) (i6 : i + 6 ≤ Lx) (hI : zI f g) (k : ∀ f2 g2, zI f2 g2 → good 18 (zw_lc (i + 6)) [] (zE_F f2) (zE_G g2)) : good 818 (zw_lc i) [] (zE_F f) (zE_G g) := by
  obtain ⟨L, R⟩ := hI.law
  have tl := zI_tl hI
  obtain ⟨o1, e1, h1⟩ := yw_matchedX (x := (zw_a xs i 1)) (y := (zw_a xs i 2)) (w := (zw_a xs i 3)) (n := (f 37)) (f5 := (f 25)) (f6 := (f 26)) (f7 := (f 27)) (h := (f 1)) (u := (f 28)) (f10 := (f 29)) (t := (f 0)) (sc := (f 3)) (sr := (f 4)) (cl := (f 2)) (tS := (f 30)) (f16 := (f 31)) (nc := (f 32)) (f18 := (f 33)) (sP := (f 34)) (tL := (f 35)) (lP := (f 36)) (f22 := (f 38)) (f25 := (f 41)) (g0 := (g 15)) (g1 := (g 16)) (co := (g 0)) (ro := (g 1)) (br := (g 2)) (kd := (g 17)) (hf := (g 18)) (to := (g 19)) (K := (g 20)) (g9 := (g 21)) (V := (g 22)) (g11 := (g 23)) (g12 := (g 24)) (g13 := (g 25)) (g14 := (g 26)) (g15 := (g 27)) (g16 := (g 28)) R hI.sky hI.so
  obtain ⟨o2, e2, h2⟩ := yw_matchedM (x := (zw_a xs i 1)) (y := (zw_a xs i 2)) (w := (zw_a xs i 3)) (n := (f 88)) (mc := (f 83)) (f2 := (f 84)) (ni := (f 89)) (f4 := (f 90)) (m := (g 67)) (mk := (g 76)) (g2 := (g 80)) (mh := (g 78)) (mt := (g 79)) (C := (g 75)) (g6 := (g 81)) (g7 := (g 82)) (g8 := (g 87)) (g9 := (g 88)) (tf := (g 85)) (tt := (g 86)) (g12 := (g 89)) R hI.sky tl
  refine zv_ald (ins := .aload_n 1) (len := 1) hB (by decide +kernel) rfl rfl rfl ?_
  refine zw_arg (j := 1) hB hR i0 i6 hL (by decide +kernel) (by decide) (by decide) rfl ?_
  refine zw_arg (j := 2) hB hR i0 i6 hL (by decide +kernel) (by decide) (by decide) rfl ?_
  refine zw_arg (j := 3) hB hR i0 i6 hL (by decide +kernel) (by decide) (by decide) rfl ?_
  refine zv_cv (i := 87) (c := 0) (mm2 := zxm111) (rm2 := (14, 840)) (va := [.inl (zw_a xs i 1), .inl (zw_a xs i 2), .inl (zw_a xs i 3)]) (S := []) hB (zE_up (by rfl) (by rfl) (by rfl) (by rfl) (by rfl) (zo_X_matched e1)) (by decide +kernel) rfl rfl (by decide) (by decide) rfl ?_
  refine zv_pop hB (by decide +kernel) rfl ?_
  refine zv_ald (ins := .aload_n 2) (len := 1) hB (by decide +kernel) rfl rfl rfl ?_
  refine zw_arg (j := 1) hB hR i0 i6 hL (by decide +kernel) (by decide) (by decide) rfl ?_
  refine zw_arg (j := 2) hB hR i0 i6 hL (by decide +kernel) (by decide) (by decide) rfl ?_
  refine zw_arg (j := 3) hB hR i0 i6 hL (by decide +kernel) (by decide) (by decide) rfl ?_
  refine zv_cv (i := 90) (c := 1) (mm2 := zxm267) (rm2 := (6, 360)) (va := [.inl (zw_a xs i 1), .inl (zw_a xs i 2), .inl (zw_a xs i 3)]) (S := []) hB (zE_up (by rfl) (by rfl) (by rfl) (by rfl) (by rfl) (zo_M_matched e2)) (by decide +kernel) rfl rfl (by decide) (by decide) rfl ?_
  refine zv_pop hB (by decide +kernel) rfl ?_
  refine zv_goto hB (off := 735) (t := 1593) (by decide +kernel) rfl ?_
  exact zw_tail hB i0 i6 hL (k _ _ ⟨hI.law, hI.sky, hI.sea, hI.tape, hI.tale, hI.kept, h1, hI.le, hI.ln⟩)
theorem zc_where {good : Nat → List zNV → List zNV → List zNV → List (Int → Int) → Prop} {Lx : Nat} {xs : Nat → Int32} {i : Int} {f : Nat → Int} {g : Nat → Int → Int} (hL : Lx ≤ 3072) (hB : zw_B good) (hR : zw_R Lx xs good) (i0 : 0 ≤ i) (i6 : i + 6 ≤ Lx) (hI : zI f g) (k : ∀ f2 g2, zI f2 g2 → good 18 (zw_lc (i + 6)) [] (zE_F f2) (zE_G g2)) : good 861 (zw_lc i) [] (zE_F f) (zE_G g) := by
  obtain ⟨L, R⟩ := hI.law
  have tl := zI_tl hI
  obtain ⟨o1, e1, h1⟩ := yw_whereX (w := (zw_a xs i 1)) (n := (f 37)) (f5 := (f 25)) (f6 := (f 26)) (f7 := (f 27)) (h := (f 1)) (u := (f 28)) (f10 := (f 29)) (t := (f 0)) (sc := (f 3)) (sr := (f 4)) (cl := (f 2)) (tS := (f 30)) (f16 := (f 31)) (nc := (f 32)) (f18 := (f 33)) (sP := (f 34)) (f20 := (f 38)) (tL := (f 35)) (lP := (f 36)) (f25 := (f 41)) (g0 := (g 15)) (g1 := (g 16)) (co := (g 0)) (ro := (g 1)) (br := (g 2)) (kd := (g 17)) (hf := (g 18)) (to := (g 19)) (K := (g 20)) (g9 := (g 21)) (V := (g 22)) (g11 := (g 23)) (g12 := (g 24)) (g13 := (g 25)) (g14 := (g 26)) (g15 := (g 27)) (g16 := (g 28)) R hI.sky hI.so
  obtain ⟨o2, e2, h2⟩ := yw_whereM (w := (zw_a xs i 1)) (n := (f 88)) (mc := (f 83)) (f2 := (f 84)) (f3 := (f 90)) (ni := (f 89)) (m := (g 67)) (mk := (g 76)) (g2 := (g 80)) (mh := (g 78)) (mt := (g 79)) (C := (g 75)) (g6 := (g 81)) (g7 := (g 82)) (g8 := (g 87)) (g9 := (g 88)) (tf := (g 85)) (tt := (g 86)) (g12 := (g 89)) R hI.sky tl
  refine zv_ald (ins := .aload_n 1) (len := 1) hB (by decide +kernel) rfl rfl rfl ?_
  refine zw_arg (j := 1) hB hR i0 i6 hL (by decide +kernel) (by decide) (by decide) rfl ?_
  refine zv_cv (i := 91) (c := 0) (mm2 := zxm122) (rm2 := (14, 840)) (va := [.inl (zw_a xs i 1)]) (S := []) hB (zE_up (by rfl) (by rfl) (by rfl) (by rfl) (by rfl) (zo_X_where e1)) (by decide +kernel) rfl rfl (by decide) (by decide) rfl ?_
  refine zv_pop hB (by decide +kernel) rfl ?_
  refine zv_ald (ins := .aload_n 2) (len := 1) hB (by decide +kernel) rfl rfl rfl ?_
  refine zw_arg (j := 1) hB hR i0 i6 hL (by decide +kernel) (by decide) (by decide) rfl ?_
  refine zv_cv (i := 94) (c := 1) (mm2 := zxm271) (rm2 := (7, 420)) (va := [.inl (zw_a xs i 1)]) (S := []) hB (zE_up (by rfl) (by rfl) (by rfl) (by rfl) (by rfl) (zo_M_where e2)) (by decide +kernel) rfl rfl (by decide) (by decide) rfl ?_
  refine zv_pop hB (by decide +kernel) rfl ?_
  refine zv_goto hB (off := 712) (t := 1593) (by decide +kernel) rfl ?_
  exact zw_tail hB i0 i6 hL (k _ _ ⟨hI.law, hI.sky, hI.sea, hI.tape, hI.tale, hI.kept, h1, hI.le, hI.ln⟩)
theorem zc_when {good : Nat → List zNV → List zNV → List zNV → List (Int → Int) → Prop} {Lx : Nat} {xs : Nat → Int32} {i : Int} {f : Nat → Int} {g : Nat → Int → Int} (hL : Lx ≤ 3072) (hB : zw_B good) (hR : zw_R Lx xs good) (i0 : 0 ≤ i) (i6 : i + 6 ≤ Lx) (hI : zI f g) (k : ∀ f2 g2, zI f2 g2 → good 18 (zw_lc (i + 6)) [] (zE_F f2) (zE_G g2)) : good 884 (zw_lc i) [] (zE_F f) (zE_G g) := by
  obtain ⟨L, R⟩ := hI.law
  have tl := zI_tl hI
  obtain ⟨o1, e1, h1⟩ := yw_whenX (x := (zw_a xs i 1)) (y := (zw_a xs i 2)) (n := (f 37)) (t := (f 0)) (f3 := (f 42)) (h := (f 1)) (f5 := (f 43)) (u := (f 28)) (f7 := (f 44)) (cl := (f 2)) (f9 := (f 45)) (sc := (f 3)) (f11 := (f 46)) (sr := (f 4)) (f13 := (f 47)) (ch := (f 48)) (f15 := (f 49)) (f19 := (f 25)) (f20 := (f 26)) (f21 := (f 27)) (f22 := (f 29)) (tS := (f 30)) (f24 := (f 31)) (nc := (f 32)) (f26 := (f 33)) (sP := (f 34)) (f28 := (f 38)) (tL := (f 35)) (lP := (f 36)) (f33 := (f 41)) (co := (g 0)) (g1 := (g 29)) (ro := (g 1)) (g3 := (g 30)) (br := (g 2)) (g5 := (g 31)) (wc := (g 3)) (g7 := (g 32)) (wr := (g 4)) (g9 := (g 33)) (g10 := (g 15)) (g11 := (g 16)) (kd := (g 17)) (hf := (g 18)) (to := (g 19)) (K := (g 20)) (g16 := (g 21)) (V := (g 22)) (g18 := (g 23)) (g19 := (g 24)) (g20 := (g 25)) (g21 := (g 26)) (g22 := (g 27)) (g23 := (g 28)) R hI.sky hI.so
  obtain ⟨o2, e2, h2⟩ := yw_whenM (x := (zw_a xs i 1)) (y := (zw_a xs i 2)) (n := (f 88)) (mc := (f 83)) (f2 := (f 84)) (f3 := (f 90)) (ni := (f 89)) (m := (g 67)) (mk := (g 76)) (g2 := (g 80)) (mh := (g 78)) (mt := (g 79)) (C := (g 75)) (g6 := (g 81)) (g7 := (g 82)) (g8 := (g 87)) (g9 := (g 88)) (tf := (g 85)) (tt := (g 86)) (g12 := (g 89)) R hI.sky tl
  refine zv_ald (ins := .aload_n 1) (len := 1) hB (by decide +kernel) rfl rfl rfl ?_
  refine zw_arg (j := 1) hB hR i0 i6 hL (by decide +kernel) (by decide) (by decide) rfl ?_
  refine zw_arg (j := 2) hB hR i0 i6 hL (by decide +kernel) (by decide) (by decide) rfl ?_
  refine zv_cv (i := 95) (c := 0) (mm2 := zxm124) (rm2 := (14, 840)) (va := [.inl (zw_a xs i 1), .inl (zw_a xs i 2)]) (S := []) hB (zE_up (by rfl) (by rfl) (by rfl) (by rfl) (by rfl) (zo_X_when e1)) (by decide +kernel) rfl rfl (by decide) (by decide) rfl ?_
  refine zv_pop hB (by decide +kernel) rfl ?_
  refine zv_ald (ins := .aload_n 2) (len := 1) hB (by decide +kernel) rfl rfl rfl ?_
  refine zw_arg (j := 1) hB hR i0 i6 hL (by decide +kernel) (by decide) (by decide) rfl ?_
  refine zw_arg (j := 2) hB hR i0 i6 hL (by decide +kernel) (by decide) (by decide) rfl ?_
  refine zv_cv (i := 98) (c := 1) (mm2 := zxm273) (rm2 := (7, 420)) (va := [.inl (zw_a xs i 1), .inl (zw_a xs i 2)]) (S := []) hB (zE_up (by rfl) (by rfl) (by rfl) (by rfl) (by rfl) (zo_M_when e2)) (by decide +kernel) rfl rfl (by decide) (by decide) rfl ?_
  refine zv_pop hB (by decide +kernel) rfl ?_
  refine zv_goto hB (off := 679) (t := 1593) (by decide +kernel) rfl ?_
  exact zw_tail hB i0 i6 hL (k _ _ ⟨hI.law, zI_sky hI fun j _ _ => h2 j, zI_sea hI fun j _ _ => h2 j, hI.tape, hI.tale, hI.kept, h1, hI.le, hI.ln⟩)
theorem zc_alike {good : Nat → List zNV → List zNV → List zNV → List (Int → Int) → Prop} {Lx : Nat} {xs : Nat → Int32} {i : Int} {f : Nat → Int} {g : Nat → Int → Int} (hL : Lx ≤ 3072) (hB : zw_B good) (hR : zw_R Lx xs good) (i0 : 0 ≤ i) (i6 : i + 6 ≤ Lx) (hI : zI f g) (k : ∀ f2 g2, zI f2 g2 → good 18 (zw_lc (i + 6)) [] (zE_F f2) (zE_G g2)) : good 917 (zw_lc i) [] (zE_F f) (zE_G g) := by
  obtain ⟨L, R⟩ := hI.law
  have tl := zI_tl hI
  obtain ⟨o1, e1, h1⟩ := yw_alikeX (w := (zw_a xs i 1)) (f3 := (f 25)) (f4 := (f 26)) (f5 := (f 27)) (h := (f 1)) (u := (f 28)) (f8 := (f 29)) (t := (f 0)) (sc := (f 3)) (sr := (f 4)) (cl := (f 2)) (tS := (f 30)) (f14 := (f 31)) (nc := (f 32)) (f16 := (f 33)) (sP := (f 34)) (g0 := (g 15)) (g1 := (g 16)) (co := (g 0)) (ro := (g 1)) (br := (g 2)) (kd := (g 17)) (hf := (g 18)) (to := (g 19)) (K := (g 20)) (g9 := (g 21)) (V := (g 22)) (g11 := (g 34)) (g12 := (g 35)) (g13 := (g 36)) (g14 := (g 37)) R hI.sky
  obtain ⟨o2, e2, h2⟩ := yw_alikeM (w := (zw_a xs i 1)) (mc := (f 83)) (m := (g 67)) (mk := (g 76)) (g2 := (g 80)) (mh := (g 78)) (mt := (g 79)) (C := (g 75)) (g6 := (g 81)) (g7 := (g 90)) (g8 := (g 91)) (g9 := (g 92)) R hI.sky
  refine zv_ald (ins := .aload_n 1) (len := 1) hB (by decide +kernel) rfl rfl rfl ?_
  refine zw_arg (j := 1) hB hR i0 i6 hL (by decide +kernel) (by decide) (by decide) rfl ?_
  refine zv_cv (i := 99) (c := 0) (mm2 := zxm126) (rm2 := (6, 360)) (va := [.inl (zw_a xs i 1)]) (S := []) hB (zE_up (by rfl) (by rfl) (by rfl) (by rfl) (by rfl) (zo_X_alike e1)) (by decide +kernel) rfl rfl (by decide) (by decide) rfl ?_
  refine zv_pop hB (by decide +kernel) rfl ?_
  refine zv_ald (ins := .aload_n 2) (len := 1) hB (by decide +kernel) rfl rfl rfl ?_
  refine zw_arg (j := 1) hB hR i0 i6 hL (by decide +kernel) (by decide) (by decide) rfl ?_
  refine zv_cv (i := 102) (c := 1) (mm2 := zxm274) (rm2 := (7, 420)) (va := [.inl (zw_a xs i 1)]) (S := []) hB (zE_up (by rfl) (by rfl) (by rfl) (by rfl) (by rfl) (zo_M_alike e2)) (by decide +kernel) rfl rfl (by decide) (by decide) rfl ?_
  refine zv_pop hB (by decide +kernel) rfl ?_
  refine zv_goto hB (off := 656) (t := 1593) (by decide +kernel) rfl ?_
  exact zw_tail hB i0 i6 hL (k _ _ ⟨hI.law, hI.sky, hI.sea, hI.tape, hI.tale, hI.kept, hI.so, hI.le, hI.ln⟩)
theorem zc_known {good : Nat → List zNV → List zNV → List zNV → List (Int → Int) → Prop} {Lx : Nat} {xs : Nat → Int32} {i : Int} {f : Nat → Int} {g : Nat → Int → Int} (hL : Lx ≤ 3072) (hB : zw_B good) (hR : zw_R Lx xs good) (i0 : 0 ≤ i) (i6 : i + 6 ≤ Lx) (hI : zI f g) (k : ∀ f2 g2, zI f2 g2 → good 18 (zw_lc (i + 6)) [] (zE_F f2) (zE_G g2)) : good 940 (zw_lc i) [] (zE_F f) (zE_G g) := by
  obtain ⟨L, R⟩ := hI.law
  have tl := zI_tl hI
  obtain ⟨o1, e1, h1⟩ := yw_knownX (a := (zw_a xs i 1)) (w := (zw_a xs i 2)) (n := (f 6)) (f4 := (f 25)) (f5 := (f 50)) (f6 := (f 26)) (f7 := (f 27)) (h := (f 1)) (u := (f 28)) (f10 := (f 29)) (t := (f 0)) (sc := (f 3)) (sr := (f 4)) (cl := (f 2)) (tS := (f 30)) (f16 := (f 31)) (nc := (f 32)) (f18 := (f 33)) (sP := (f 34)) (g0 := (g 15)) (g1 := (g 38)) (T := (g 7)) (g3 := (g 16)) (co := (g 0)) (ro := (g 1)) (br := (g 2)) (kd := (g 17)) (hf := (g 18)) (to := (g 19)) (K := (g 20)) (g11 := (g 21)) (V := (g 22)) (g13 := (g 36)) R hI.sky hI.tape.2.1 hI.tape.2.2.1
  obtain ⟨o2, e2, h2⟩ := yw_knownM (a := (zw_a xs i 1)) (w := (zw_a xs i 2)) (n := (f 74)) (mc := (f 83)) (M := (g 68)) (g1 := (g 93)) (m := (g 67)) (mk := (g 76)) (g4 := (g 80)) (mh := (g 78)) (mt := (g 79)) (C := (g 75)) (g8 := (g 81)) (g9 := (g 90)) (g10 := (g 91)) (g11 := (g 92)) R hI.sky (by rw [hI.tape.1]; exact hI.tape.2.1) (by rw [hI.tape.1]; exact hI.tape.2.2.1)
  refine zv_ald (ins := .aload_n 1) (len := 1) hB (by decide +kernel) rfl rfl rfl ?_
  refine zw_arg (j := 1) hB hR i0 i6 hL (by decide +kernel) (by decide) (by decide) rfl ?_
  refine zw_arg (j := 2) hB hR i0 i6 hL (by decide +kernel) (by decide) (by decide) rfl ?_
  refine zv_cv (i := 103) (c := 0) (mm2 := zxm136) (rm2 := (5, 300)) (va := [.inl (zw_a xs i 1), .inl (zw_a xs i 2)]) (S := []) hB (zE_up (by rfl) (by rfl) (by rfl) (by rfl) (by rfl) (zo_X_known e1)) (by decide +kernel) rfl rfl (by decide) (by decide) rfl ?_
  refine zv_pop hB (by decide +kernel) rfl ?_
  refine zv_ald (ins := .aload_n 2) (len := 1) hB (by decide +kernel) rfl rfl rfl ?_
  refine zw_arg (j := 1) hB hR i0 i6 hL (by decide +kernel) (by decide) (by decide) rfl ?_
  refine zw_arg (j := 2) hB hR i0 i6 hL (by decide +kernel) (by decide) (by decide) rfl ?_
  refine zv_cv (i := 106) (c := 1) (mm2 := zxm281) (rm2 := (7, 420)) (va := [.inl (zw_a xs i 1), .inl (zw_a xs i 2)]) (S := []) hB (zE_up (by rfl) (by rfl) (by rfl) (by rfl) (by rfl) (zo_M_known e2)) (by decide +kernel) rfl rfl (by decide) (by decide) rfl ?_
  refine zv_pop hB (by decide +kernel) rfl ?_
  refine zv_goto hB (off := 623) (t := 1593) (by decide +kernel) rfl ?_
  exact zw_tail hB i0 i6 hL (k _ _ ⟨hI.law, hI.sky, hI.sea, zI_size hI h1 (h2.trans (by rw [hI.tape.1])) (by split; exact .inl rfl; split; exact .inl rfl; split; exact .inl rfl; exact .inr rfl), hI.tale, hI.kept, hI.so, hI.le, hI.ln⟩)
theorem zc_named {good : Nat → List zNV → List zNV → List zNV → List (Int → Int) → Prop} {Lx : Nat} {xs : Nat → Int32} {i : Int} {f : Nat → Int} {g : Nat → Int → Int} (hL : Lx ≤ 3072) (hB : zw_B good) (hR : zw_R Lx xs good) (i0 : 0 ≤ i) (i6 : i + 6 ≤ Lx) (hI : zI f g) (k : ∀ f2 g2, zI f2 g2 → good 18 (zw_lc (i + 6)) [] (zE_F f2) (zE_G g2)) : good 973 (zw_lc i) [] (zE_F f) (zE_G g) := by
  obtain ⟨L, R⟩ := hI.law
  have tl := zI_tl hI
  obtain ⟨o1, e1, h1⟩ := yw_namedX (a := (zw_a xs i 1)) (w := (zw_a xs i 2)) (n := (f 6)) (f4 := (f 25)) (f5 := (f 26)) (f6 := (f 27)) (h := (f 1)) (u := (f 28)) (f9 := (f 29)) (t := (f 0)) (sc := (f 3)) (sr := (f 4)) (cl := (f 2)) (tS := (f 30)) (f15 := (f 31)) (nc := (f 32)) (f17 := (f 33)) (sP := (f 34)) (g0 := (g 15)) (T := (g 7)) (g2 := (g 16)) (co := (g 0)) (ro := (g 1)) (br := (g 2)) (kd := (g 17)) (hf := (g 18)) (to := (g 19)) (K := (g 20)) (g10 := (g 21)) (V := (g 22)) (g12 := (g 39)) (g13 := (g 40)) (g14 := (g 41)) R hI.sky hI.tape.2.2.2
  obtain ⟨o2, e2, h2⟩ := yw_namedM (a := (zw_a xs i 1)) (w := (zw_a xs i 2)) (n := (f 74)) (f1 := (f 91)) (mc := (f 83)) (M := (g 68)) (g1 := (g 94)) (g2 := (g 95)) (m := (g 67)) (mk := (g 76)) (g5 := (g 80)) (mh := (g 78)) (mt := (g 79)) (C := (g 75)) (g9 := (g 81)) R hI.sky hI.tape.2.2.2
  refine zv_ald (ins := .aload_n 1) (len := 1) hB (by decide +kernel) rfl rfl rfl ?_
  refine zw_arg (j := 1) hB hR i0 i6 hL (by decide +kernel) (by decide) (by decide) rfl ?_
  refine zw_arg (j := 2) hB hR i0 i6 hL (by decide +kernel) (by decide) (by decide) rfl ?_
  refine zv_cv (i := 107) (c := 0) (mm2 := zxm140) (rm2 := (11, 660)) (va := [.inl (zw_a xs i 1), .inl (zw_a xs i 2)]) (S := []) hB (zE_up (by rfl) (by rfl) (by rfl) (by rfl) (by rfl) (zo_X_named e1)) (by decide +kernel) rfl rfl (by decide) (by decide) rfl ?_
  refine zv_pop hB (by decide +kernel) rfl ?_
  refine zv_ald (ins := .aload_n 2) (len := 1) hB (by decide +kernel) rfl rfl rfl ?_
  refine zw_arg (j := 1) hB hR i0 i6 hL (by decide +kernel) (by decide) (by decide) rfl ?_
  refine zw_arg (j := 2) hB hR i0 i6 hL (by decide +kernel) (by decide) (by decide) rfl ?_
  refine zv_cv (i := 110) (c := 1) (mm2 := zxm283) (rm2 := (5, 300)) (va := [.inl (zw_a xs i 1), .inl (zw_a xs i 2)]) (S := []) hB (zE_up (by rfl) (by rfl) (by rfl) (by rfl) (by rfl) (zo_M_named e2)) (by decide +kernel) rfl rfl (by decide) (by decide) rfl ?_
  refine zv_pop hB (by decide +kernel) rfl ?_
  refine zv_goto hB (off := 590) (t := 1593) (by decide +kernel) rfl ?_
  exact zw_tail hB i0 i6 hL (k _ _ ⟨hI.law, hI.sky, hI.sea, zI_size hI h1 (h2.trans (by rw [hI.tape.1])) (by split; exact .inl rfl; split; exact .inl rfl; split; exact .inl rfl; exact .inr rfl), hI.tale, hI.kept, hI.so, hI.le, hI.ln⟩)
end
section
/-! The calls of the law, case by case. -/
theorem zc_sold {good : Nat → List zNV → List zNV → List zNV → List (Int → Int) → Prop} {Lx : Nat} {xs : Nat → Int32} {i : Int} {f : Nat → Int} {g : Nat → Int → Int} (hL : Lx ≤ 3072) (hB : zw_B good) (hR : zw_R Lx xs good) (i0 : 0 ≤ i) (i6 : i + 6 ≤ Lx) (hI : zI f g) (k : ∀ f2 g2, zI f2 g2 → good 18 (zw_lc (i + 6)) [] (zE_F f2) (zE_G g2)) : good 1006 (zw_lc i) [] (zE_F f) (zE_G g) := by
  obtain ⟨L, R⟩ := hI.law
  have tl := zI_tl hI
  obtain ⟨v0, v1, v2, v3, v4, v5, v6, v7, v8, v9, v10, v11, v12, e1, e2⟩ := yo_sold (a := (zw_a xs i 1)) (b := (zw_a xs i 2)) (h := (f 1)) (u := (f 28)) (t := (f 0)) (nc := (f 32)) (f5 := (f 33)) (g0 := (g 16)) (g1 := (g 42)) (g2 := (g 43)) (br := (g 2)) (ro := (g 1)) (co := (g 0)) (kd := (g 17)) (hf := (g 18)) (to := (g 19)) (K := (g 20)) (g10 := (g 21)) (V := (g 22)) (fr := (g 44)) (g13 := (g 45)) (g14 := (g 46)) (mc := (f 83)) (q0 := (g 80)) (m := (g 67)) (q2 := (g 96)) (q3 := (g 97)) (mk := (g 76)) (mh := (g 78)) (mt := (g 79)) (C := (g 75)) (q8 := (g 81)) (mf := (g 77)) (q10 := (g 98)) R hI.sky
  refine zv_ald (ins := .aload_n 1) (len := 1) hB (by decide +kernel) rfl rfl rfl ?_
  refine zw_arg (j := 1) hB hR i0 i6 hL (by decide +kernel) (by decide) (by decide) rfl ?_
  refine zw_arg (j := 2) hB hR i0 i6 hL (by decide +kernel) (by decide) (by decide) rfl ?_
  refine zv_cv (i := 111) (c := 0) (mm2 := zxm144) (rm2 := (4, 240)) (va := [.inl (zw_a xs i 1), .inl (zw_a xs i 2)]) (S := []) hB (zE_up (by rfl) (by rfl) (by rfl) (by rfl) (by rfl) (zo_X_sold e1)) (by decide +kernel) rfl rfl (by decide) (by decide) rfl ?_
  refine zv_pop hB (by decide +kernel) rfl ?_
  refine zv_ald (ins := .aload_n 2) (len := 1) hB (by decide +kernel) rfl rfl rfl ?_
  refine zw_arg (j := 1) hB hR i0 i6 hL (by decide +kernel) (by decide) (by decide) rfl ?_
  refine zw_arg (j := 2) hB hR i0 i6 hL (by decide +kernel) (by decide) (by decide) rfl ?_
  refine zv_cv (i := 114) (c := 1) (mm2 := zxm287) (rm2 := (3, 180)) (va := [.inl (zw_a xs i 1), .inl (zw_a xs i 2)]) (S := []) hB (zE_up (by rfl) (by rfl) (by rfl) (by rfl) (by rfl) (zo_M_sold e2)) (by decide +kernel) rfl rfl (by decide) (by decide) rfl ?_
  refine zv_pop hB (by decide +kernel) rfl ?_
  refine zv_goto hB (off := 557) (t := 1593) (by decide +kernel) rfl ?_
  exact zw_tail hB i0 i6 hL (k _ _ ⟨hI.law, hI.sky, hI.sea, hI.tape, hI.tale, hI.kept, hI.so, hI.le, hI.ln⟩)
theorem zc_steered {good : Nat → List zNV → List zNV → List zNV → List (Int → Int) → Prop} {Lx : Nat} {xs : Nat → Int32} {i : Int} {f : Nat → Int} {g : Nat → Int → Int} (hL : Lx ≤ 3072) (hB : zw_B good) (hR : zw_R Lx xs good) (i0 : 0 ≤ i) (i6 : i + 6 ≤ Lx) (hI : zI f g) (k : ∀ f2 g2, zI f2 g2 → good 18 (zw_lc (i + 6)) [] (zE_F f2) (zE_G g2)) : good 1039 (zw_lc i) [] (zE_F f) (zE_G g) := by
  obtain ⟨L, R⟩ := hI.law
  have tl := zI_tl hI
  obtain ⟨v0, v1, v2, v3, v4, v5, v6, v7, v8, v9, v10, v11, v12, v13, v14, v15, v16, v17, v18, e1, e2, k', z'⟩ := yo_steered (s := (zw_a xs i 1)) (i := (zw_a xs i 2)) (N := (zw_a xs i 3)) (dr := (if zw_a xs i 4 = 0 then 0 else 1)) (ts := (f 5)) (t := (f 0)) (f5 := (f 25)) (f6 := (f 26)) (f7 := (f 27)) (h := (f 1)) (u := (f 28)) (sc := (f 3)) (sr := (f 4)) (cl := (f 2)) (tS := (f 30)) (f14 := (f 31)) (nc := (f 32)) (f16 := (f 33)) (sP := (f 34)) (ch := (f 48)) (gp := (g 5)) (g1 := (g 15)) (g2 := (g 16)) (co := (g 0)) (ro := (g 1)) (br := (g 2)) (kd := (g 17)) (hf := (g 18)) (to := (g 19)) (K := (g 20)) (g10 := (g 21)) (V := (g 22)) (gl := (g 6)) (wc := (g 3)) (wr := (g 4)) (fr := (g 44)) (mc := (f 83)) (m := (g 67)) (mk := (g 76)) (S2 := (g 80)) (mh := (g 78)) (mt := (g 79)) (C := (g 75)) (mS := (g 81)) (mf := (g 77)) (f8 := 0) (f9 := 0) R hI.sky hI.sea
  refine zv_ald (ins := .aload_n 1) (len := 1) hB (by decide +kernel) rfl rfl rfl ?_
  refine zw_arg (j := 1) hB hR i0 i6 hL (by decide +kernel) (by decide) (by decide) rfl ?_
  refine zw_arg (j := 2) hB hR i0 i6 hL (by decide +kernel) (by decide) (by decide) rfl ?_
  refine zw_arg (j := 3) hB hR i0 i6 hL (by decide +kernel) (by decide) (by decide) rfl ?_
  refine zw_arg (j := 4) hB hR i0 i6 hL (by decide +kernel) (by decide) (by decide) rfl ?_
  refine zw_bool (pc := 1060) hB (by decide +kernel) (by decide +kernel) (by decide +kernel) (by decide +kernel) rfl rfl ?_
  refine zv_cv (i := 115) (c := 0) (mm2 := zxm151) (rm2 := (5, 300)) (va := [.inl (zw_a xs i 1), .inl (zw_a xs i 2), .inl (zw_a xs i 3), .inl (if zw_a xs i 4 = 0 then 0 else 1)]) (S := []) hB (zE_up (by rfl) (by rfl) (by rfl) (by rfl) (by rfl) (zo_X_steered e1)) (by decide +kernel) rfl rfl (by decide) (by decide) rfl ?_
  refine zv_pop hB (by decide +kernel) rfl ?_
  refine zv_ald (ins := .aload_n 2) (len := 1) hB (by decide +kernel) rfl rfl rfl ?_
  refine zw_arg (j := 1) hB hR i0 i6 hL (by decide +kernel) (by decide) (by decide) rfl ?_
  refine zw_arg (j := 2) hB hR i0 i6 hL (by decide +kernel) (by decide) (by decide) rfl ?_
  refine zw_arg (j := 3) hB hR i0 i6 hL (by decide +kernel) (by decide) (by decide) rfl ?_
  refine zw_arg (j := 4) hB hR i0 i6 hL (by decide +kernel) (by decide) (by decide) rfl ?_
  refine zw_bool (pc := 1093) hB (by decide +kernel) (by decide +kernel) (by decide +kernel) (by decide +kernel) rfl rfl ?_
  refine zv_cv (i := 119) (c := 1) (mm2 := zxm289) (rm2 := (6, 360)) (va := [.inl (zw_a xs i 1), .inl (zw_a xs i 2), .inl (zw_a xs i 3), .inl (if zw_a xs i 4 = 0 then 0 else 1)]) (S := []) hB (zE_up (by rfl) (by rfl) (by rfl) (by rfl) (by rfl) (zo_M_steered e2)) (by decide +kernel) rfl rfl (by decide) (by decide) rfl ?_
  refine zv_pop hB (by decide +kernel) rfl ?_
  refine zv_goto hB (off := 488) (t := 1593) (by decide +kernel) rfl ?_
  exact zw_tail hB i0 i6 hL (k _ _ ⟨hI.law, k', z', hI.tape, hI.tale, hI.kept, hI.so, hI.le, hI.ln⟩)
theorem zc_hours {good : Nat → List zNV → List zNV → List zNV → List (Int → Int) → Prop} {Lx : Nat} {xs : Nat → Int32} {i : Int} {f : Nat → Int} {g : Nat → Int → Int} (hL : Lx ≤ 3072) (hB : zw_B good) (hR : zw_R Lx xs good) (i0 : 0 ≤ i) (i6 : i + 6 ≤ Lx) (hI : zI f g) (k : ∀ f2 g2, zI f2 g2 → good 18 (zw_lc (i + 6)) [] (zE_F f2) (zE_G g2)) : good 1108 (zw_lc i) [] (zE_F f) (zE_G g) := by
  obtain ⟨L, R⟩ := hI.law
  have tl := zI_tl hI
  obtain ⟨v0, v1, v2, v3, v4, v5, e1, e2, k', fr⟩ := yo_hours (N := (zw_a xs i 1)) (h := (f 1)) (u := (f 28)) (co := (g 0)) (wc := (g 3)) (ro := (g 1)) (wr := (g 4)) (m := (g 67)) hI.sky
  refine zv_ald (ins := .aload_n 1) (len := 1) hB (by decide +kernel) rfl rfl rfl ?_
  refine zw_arg (j := 1) hB hR i0 i6 hL (by decide +kernel) (by decide) (by decide) rfl ?_
  refine zv_cv (i := 120) (c := 0) (mm2 := zxm159) (rm2 := (4, 240)) (va := [.inl (zw_a xs i 1)]) (S := []) hB (zE_up (by rfl) (by rfl) (by rfl) (by rfl) (by rfl) (zo_X_hours e1)) (by decide +kernel) rfl rfl (by decide) (by decide) rfl ?_
  refine zv_pop hB (by decide +kernel) rfl ?_
  refine zv_ald (ins := .aload_n 2) (len := 1) hB (by decide +kernel) rfl rfl rfl ?_
  refine zw_arg (j := 1) hB hR i0 i6 hL (by decide +kernel) (by decide) (by decide) rfl ?_
  refine zv_cv (i := 123) (c := 1) (mm2 := zxm297) (rm2 := (4, 240)) (va := [.inl (zw_a xs i 1)]) (S := []) hB (zE_up (by rfl) (by rfl) (by rfl) (by rfl) (by rfl) (zo_M_hours e2)) (by decide +kernel) rfl rfl (by decide) (by decide) rfl ?_
  refine zv_pop hB (by decide +kernel) rfl ?_
  refine zv_goto hB (off := 465) (t := 1593) (by decide +kernel) rfl ?_
  exact zw_tail hB i0 i6 hL (k _ _ ⟨hI.law, k', yk_sea_fr hI.sea fun j hj => fr j (by omega) (by omega) (by omega), hI.tape, hI.tale, hI.kept, hI.so, hI.le, hI.ln⟩)
theorem zc_found {good : Nat → List zNV → List zNV → List zNV → List (Int → Int) → Prop} {Lx : Nat} {xs : Nat → Int32} {i : Int} {f : Nat → Int} {g : Nat → Int → Int} (hL : Lx ≤ 3072) (hB : zw_B good) (hR : zw_R Lx xs good) (i0 : 0 ≤ i) (i6 : i + 6 ≤ Lx) (hI : zI f g) (k : ∀ f2 g2, zI f2 g2 → good 18 (zw_lc (i + 6)) [] (zE_F f2) (zE_G g2)) : good 1131 (zw_lc i) [] (zE_F f) (zE_G g) := by
  obtain ⟨L, R⟩ := hI.law
  have tl := zI_tl hI
  obtain ⟨v0, v1, v2, v3, v4, e1, e2, p', fr⟩ := yo_found (t := (f 0)) (n := (f 6)) (T := (g 7)) (co := (g 0)) (wc := (g 3)) (ro := (g 1)) (wr := (g 4)) (n2 := (f 74)) (m := (g 67)) (mA := (g 99)) (M := (g 68)) hI.sky hI.tape
  refine zv_ald (ins := .aload_n 1) (len := 1) hB (by decide +kernel) rfl rfl rfl ?_
  refine zv_cv (i := 124) (c := 0) (mm2 := zxm160) (rm2 := (2, 120)) (va := []) (S := []) hB (zE_up (by rfl) (by rfl) (by rfl) (by rfl) (by rfl) (zo_X_found e1)) (by decide +kernel) rfl rfl (by decide) (by decide) rfl ?_
  refine zv_pop hB (by decide +kernel) rfl ?_
  refine zv_ald (ins := .aload_n 2) (len := 1) hB (by decide +kernel) rfl rfl rfl ?_
  refine zv_cv (i := 128) (c := 1) (mm2 := zxm298) (rm2 := (3, 180)) (va := []) (S := []) hB (zE_up (by rfl) (by rfl) (by rfl) (by rfl) (by rfl) (zo_M_found e2)) (by decide +kernel) rfl rfl (by decide) (by decide) rfl ?_
  refine zv_pop hB (by decide +kernel) rfl ?_
  refine zv_goto hB (off := 452) (t := 1593) (by decide +kernel) rfl ?_
  exact zw_tail hB i0 i6 hL (k _ _ ⟨hI.law, zI_sky hI fr, zI_sea hI fr, p', hI.tale, hI.kept, hI.so, hI.le, hI.ln⟩)
theorem zc_meeting {good : Nat → List zNV → List zNV → List zNV → List (Int → Int) → Prop} {Lx : Nat} {xs : Nat → Int32} {i : Int} {f : Nat → Int} {g : Nat → Int → Int} (hL : Lx ≤ 3072) (hB : zw_B good) (hR : zw_R Lx xs good) (i0 : 0 ≤ i) (i6 : i + 6 ≤ Lx) (hI : zI f g) (k : ∀ f2 g2, zI f2 g2 → good 18 (zw_lc (i + 6)) [] (zE_F f2) (zE_G g2)) : good 1144 (zw_lc i) [] (zE_F f) (zE_G g) := by
  obtain ⟨L, R⟩ := hI.law
  have tl := zI_tl hI
  obtain ⟨v0, v1, v2, v3, v4, v5, v6, e1, e2⟩ := yo_meeting (a := (zw_a xs i 1)) (b := (zw_a xs i 2)) (w := (zw_a xs i 3)) (ts := (f 5)) (gp := (g 5)) (h1 := (g 47)) (q1 := (g 48)) (gl := (g 6)) (h3 := (g 49)) (m := (g 67)) (fA := (g 100)) (q2 := (g 101)) (fB := (g 102)) hI.sea
  refine zv_ald (ins := .aload_n 1) (len := 1) hB (by decide +kernel) rfl rfl rfl ?_
  refine zw_arg (j := 1) hB hR i0 i6 hL (by decide +kernel) (by decide) (by decide) rfl ?_
  refine zw_arg (j := 2) hB hR i0 i6 hL (by decide +kernel) (by decide) (by decide) rfl ?_
  refine zw_arg (j := 3) hB hR i0 i6 hL (by decide +kernel) (by decide) (by decide) rfl ?_
  refine zv_cv (i := 129) (c := 0) (mm2 := zxm161) (rm2 := (5, 300)) (va := [.inl (zw_a xs i 1), .inl (zw_a xs i 2), .inl (zw_a xs i 3)]) (S := []) hB (zE_up (by rfl) (by rfl) (by rfl) (by rfl) (by rfl) (zo_X_meeting e1)) (by decide +kernel) rfl rfl (by decide) (by decide) rfl ?_
  refine zv_ald (ins := .aload_n 2) (len := 1) hB (by decide +kernel) rfl rfl rfl ?_
  refine zw_arg (j := 1) hB hR i0 i6 hL (by decide +kernel) (by decide) (by decide) rfl ?_
  refine zw_arg (j := 2) hB hR i0 i6 hL (by decide +kernel) (by decide) (by decide) rfl ?_
  refine zw_arg (j := 3) hB hR i0 i6 hL (by decide +kernel) (by decide) (by decide) rfl ?_
  refine zv_cv (i := 132) (c := 1) (mm2 := zxm302) (rm2 := (2, 120)) (va := [.inl (zw_a xs i 1), .inl (zw_a xs i 2), .inl (zw_a xs i 3)]) (S := [.inl _]) hB (zE_up (by rfl) (by rfl) (by rfl) (by rfl) (by rfl) (zo_M_meeting e2)) (by decide +kernel) rfl rfl (by decide) (by decide) rfl ?_
  refine zv_ceq hB (off := 411) (t := 1593) (by decide +kernel) rfl (fun _ => ?_) fun hne => absurd rfl hne
  exact zw_tail hB i0 i6 hL (k _ _ ⟨hI.law, hI.sky, hI.sea, hI.tape, hI.tale, hI.kept, hI.so, hI.le, hI.ln⟩)
theorem zc_fastest {good : Nat → List zNV → List zNV → List zNV → List (Int → Int) → Prop} {Lx : Nat} {xs : Nat → Int32} {i : Int} {f : Nat → Int} {g : Nat → Int → Int} (hL : Lx ≤ 3072) (hB : zw_B good) (hR : zw_R Lx xs good) (i0 : 0 ≤ i) (i6 : i + 6 ≤ Lx) (hI : zI f g) (k : ∀ f2 g2, zI f2 g2 → good 18 (zw_lc (i + 6)) [] (zE_F f2) (zE_G g2)) : good 1187 (zw_lc i) [] (zE_F f) (zE_G g) := by
  obtain ⟨L, R⟩ := hI.law
  have tl := zI_tl hI
  obtain ⟨o1, e1, h1⟩ := yw_fastestX (s := (zw_a xs i 1)) (x := (zw_a xs i 2)) (y := (zw_a xs i 3)) (n := (zw_a xs i 4)) (w := (zw_a xs i 5)) (ts := (f 5)) (t := (f 0)) (f2 := (f 42)) (h := (f 1)) (f4 := (f 43)) (u := (f 28)) (f6 := (f 44)) (cl := (f 2)) (f8 := (f 45)) (sc := (f 3)) (f10 := (f 46)) (sr := (f 4)) (f12 := (f 47)) (ch := (f 48)) (f14 := (f 49)) (f18 := (f 25)) (f19 := (f 26)) (f20 := (f 27)) (tS := (f 30)) (f22 := (f 31)) (nc := (f 32)) (f24 := (f 33)) (sP := (f 34)) (f26 := (f 51)) (f27 := (f 52)) (co := (g 0)) (g1 := (g 29)) (ro := (g 1)) (g3 := (g 30)) (br := (g 2)) (g5 := (g 31)) (wc := (g 3)) (g7 := (g 32)) (wr := (g 4)) (g9 := (g 33)) (g10 := (g 15)) (gp := (g 5)) (g12 := (g 50)) (g13 := (g 16)) (kd := (g 17)) (hf := (g 18)) (to := (g 19)) (K := (g 20)) (g18 := (g 21)) (V := (g 22)) (gl := (g 6)) R hI.sky hI.sea
  obtain ⟨o2, e2, h2⟩ := yw_fastestM (s := (zw_a xs i 1)) (x := (zw_a xs i 2)) (y := (zw_a xs i 3)) (n := (zw_a xs i 4)) (w := (zw_a xs i 5)) (mc := (f 83)) (m := (g 67)) (aA := (g 99)) (mk := (g 76)) (g := (g 80)) (mh := (g 78)) (mt := (g 79)) (C := (g 75)) (S := (g 81)) (mf := (g 77)) R hI.sky hI.sea
  refine zv_ald (ins := .aload_n 1) (len := 1) hB (by decide +kernel) rfl rfl rfl ?_
  refine zw_arg (j := 1) hB hR i0 i6 hL (by decide +kernel) (by decide) (by decide) rfl ?_
  refine zw_arg (j := 2) hB hR i0 i6 hL (by decide +kernel) (by decide) (by decide) rfl ?_
  refine zw_arg (j := 3) hB hR i0 i6 hL (by decide +kernel) (by decide) (by decide) rfl ?_
  refine zw_arg (j := 4) hB hR i0 i6 hL (by decide +kernel) (by decide) (by decide) rfl ?_
  refine zw_arg (j := 5) hB hR i0 i6 hL (by decide +kernel) (by decide) (by decide) rfl ?_
  refine zv_cv (i := 133) (c := 0) (mm2 := zxm165) (rm2 := (7, 420)) (va := [.inl (zw_a xs i 1), .inl (zw_a xs i 2), .inl (zw_a xs i 3), .inl (zw_a xs i 4), .inl (zw_a xs i 5)]) (S := []) hB (zE_up (by rfl) (by rfl) (by rfl) (by rfl) (by rfl) (zo_X_fastest e1)) (by decide +kernel) rfl rfl (by decide) (by decide) rfl ?_
  refine zv_pop hB (by decide +kernel) rfl ?_
  refine zv_ald (ins := .aload_n 2) (len := 1) hB (by decide +kernel) rfl rfl rfl ?_
  refine zw_arg (j := 1) hB hR i0 i6 hL (by decide +kernel) (by decide) (by decide) rfl ?_
  refine zw_arg (j := 2) hB hR i0 i6 hL (by decide +kernel) (by decide) (by decide) rfl ?_
  refine zw_arg (j := 3) hB hR i0 i6 hL (by decide +kernel) (by decide) (by decide) rfl ?_
  refine zw_arg (j := 4) hB hR i0 i6 hL (by decide +kernel) (by decide) (by decide) rfl ?_
  refine zw_arg (j := 5) hB hR i0 i6 hL (by decide +kernel) (by decide) (by decide) rfl ?_
  refine zv_cv (i := 136) (c := 1) (mm2 := zxm305) (rm2 := (7, 420)) (va := [.inl (zw_a xs i 1), .inl (zw_a xs i 2), .inl (zw_a xs i 3), .inl (zw_a xs i 4), .inl (zw_a xs i 5)]) (S := []) hB (zE_up (by rfl) (by rfl) (by rfl) (by rfl) (by rfl) (zo_M_fastest e2)) (by decide +kernel) rfl rfl (by decide) (by decide) rfl ?_
  refine zv_pop hB (by decide +kernel) rfl ?_
  refine zv_goto hB (off := 346) (t := 1593) (by decide +kernel) rfl ?_
  exact zw_tail hB i0 i6 hL (k _ _ ⟨hI.law, zI_sky hI h2, zI_sea hI h2, hI.tape, hI.tale, hI.kept, hI.so, hI.le, hI.ln⟩)
theorem zc_byTwo {good : Nat → List zNV → List zNV → List zNV → List (Int → Int) → Prop} {Lx : Nat} {xs : Nat → Int32} {i : Int} {f : Nat → Int} {g : Nat → Int → Int} (hL : Lx ≤ 3072) (hB : zw_B good) (hR : zw_R Lx xs good) (i0 : 0 ≤ i) (i6 : i + 6 ≤ Lx) (hI : zI f g) (k : ∀ f2 g2, zI f2 g2 → good 18 (zw_lc (i + 6)) [] (zE_F f2) (zE_G g2)) : good 1250 (zw_lc i) [] (zE_F f) (zE_G g) := by
  obtain ⟨L, R⟩ := hI.law
  have tl := zI_tl hI
  obtain ⟨o1, e1, h1⟩ := yw_byTwoX (s := (zw_a xs i 1)) (x := (zw_a xs i 2)) (y := (zw_a xs i 3)) (n := (zw_a xs i 4)) (w := (zw_a xs i 5)) (ts := (f 5)) (t := (f 0)) (f2 := (f 42)) (h := (f 1)) (f4 := (f 43)) (u := (f 28)) (f6 := (f 44)) (cl := (f 2)) (f8 := (f 45)) (sc := (f 3)) (f10 := (f 46)) (sr := (f 4)) (f12 := (f 47)) (ch := (f 48)) (f14 := (f 49)) (f18 := (f 25)) (f19 := (f 53)) (f20 := (f 26)) (f21 := (f 27)) (tS := (f 30)) (f23 := (f 31)) (nc := (f 32)) (f25 := (f 33)) (sP := (f 34)) (f27 := (f 54)) (f28 := (f 51)) (f29 := (f 52)) (f30 := (f 55)) (f31 := (f 56)) (co := (g 0)) (g1 := (g 29)) (ro := (g 1)) (g3 := (g 30)) (br := (g 2)) (g5 := (g 31)) (wc := (g 3)) (g7 := (g 32)) (wr := (g 4)) (g9 := (g 33)) (g10 := (g 15)) (gp := (g 5)) (g12 := (g 50)) (g13 := (g 16)) (kd := (g 17)) (hf := (g 18)) (to := (g 19)) (K := (g 20)) (g18 := (g 21)) (V := (g 22)) (gl := (g 6)) (g21 := (g 51)) (g22 := (g 52)) (g23 := (g 53)) (g24 := (g 54)) (g25 := (g 55)) R hI.sky hI.sea hI.le hI.ln
  obtain ⟨o2, e2, h2⟩ := yw_byTwoM (s := (zw_a xs i 1)) (x := (zw_a xs i 2)) (y := (zw_a xs i 3)) (n := (zw_a xs i 4)) (w := (zw_a xs i 5)) (mc := (f 83)) (f1 := (f 92)) (f2 := (f 93)) (f3 := (f 94)) (f4 := (f 95)) (m := (g 67)) (aA := (g 99)) (mk := (g 76)) (g := (g 80)) (mh := (g 78)) (mt := (g 79)) (C := (g 75)) (S := (g 81)) (mf := (g 77)) R hI.sky hI.sea
  refine zv_ald (ins := .aload_n 1) (len := 1) hB (by decide +kernel) rfl rfl rfl ?_
  refine zw_arg (j := 1) hB hR i0 i6 hL (by decide +kernel) (by decide) (by decide) rfl ?_
  refine zw_arg (j := 2) hB hR i0 i6 hL (by decide +kernel) (by decide) (by decide) rfl ?_
  refine zw_arg (j := 3) hB hR i0 i6 hL (by decide +kernel) (by decide) (by decide) rfl ?_
  refine zw_arg (j := 4) hB hR i0 i6 hL (by decide +kernel) (by decide) (by decide) rfl ?_
  refine zw_arg (j := 5) hB hR i0 i6 hL (by decide +kernel) (by decide) (by decide) rfl ?_
  refine zv_cv (i := 137) (c := 0) (mm2 := zxm170) (rm2 := (7, 420)) (va := [.inl (zw_a xs i 1), .inl (zw_a xs i 2), .inl (zw_a xs i 3), .inl (zw_a xs i 4), .inl (zw_a xs i 5)]) (S := []) hB (zE_up (by rfl) (by rfl) (by rfl) (by rfl) (by rfl) (zo_X_byTwo e1)) (by decide +kernel) rfl rfl (by decide) (by decide) rfl ?_
  refine zv_pop hB (by decide +kernel) rfl ?_
  refine zv_ald (ins := .aload_n 2) (len := 1) hB (by decide +kernel) rfl rfl rfl ?_
  refine zw_arg (j := 1) hB hR i0 i6 hL (by decide +kernel) (by decide) (by decide) rfl ?_
  refine zw_arg (j := 2) hB hR i0 i6 hL (by decide +kernel) (by decide) (by decide) rfl ?_
  refine zw_arg (j := 3) hB hR i0 i6 hL (by decide +kernel) (by decide) (by decide) rfl ?_
  refine zw_arg (j := 4) hB hR i0 i6 hL (by decide +kernel) (by decide) (by decide) rfl ?_
  refine zw_arg (j := 5) hB hR i0 i6 hL (by decide +kernel) (by decide) (by decide) rfl ?_
  refine zv_cv (i := 140) (c := 1) (mm2 := zxm307) (rm2 := (8, 480)) (va := [.inl (zw_a xs i 1), .inl (zw_a xs i 2), .inl (zw_a xs i 3), .inl (zw_a xs i 4), .inl (zw_a xs i 5)]) (S := []) hB (zE_up (by rfl) (by rfl) (by rfl) (by rfl) (by rfl) (zo_M_byTwo e2)) (by decide +kernel) rfl rfl (by decide) (by decide) rfl ?_
  refine zv_pop hB (by decide +kernel) rfl ?_
  refine zv_goto hB (off := 283) (t := 1593) (by decide +kernel) rfl ?_
  exact zw_tail hB i0 i6 hL (k _ _ ⟨hI.law, zI_sky hI h2, zI_sea hI h2, hI.tape, hI.tale, hI.kept, hI.so, h1.1, h1.2⟩)
theorem zc_both {good : Nat → List zNV → List zNV → List zNV → List (Int → Int) → Prop} {Lx : Nat} {xs : Nat → Int32} {i : Int} {f : Nat → Int} {g : Nat → Int → Int} (hL : Lx ≤ 3072) (hB : zw_B good) (hR : zw_R Lx xs good) (i0 : 0 ≤ i) (i6 : i + 6 ≤ Lx) (hI : zI f g) (k : ∀ f2 g2, zI f2 g2 → good 18 (zw_lc (i + 6)) [] (zE_F f2) (zE_G g2)) : good 1313 (zw_lc i) [] (zE_F f) (zE_G g) := by
  obtain ⟨L, R⟩ := hI.law
  have tl := zI_tl hI
  obtain ⟨o1, e1, h1⟩ := yw_bothX (x := (zw_a xs i 1)) (y := (zw_a xs i 2)) (w := (zw_a xs i 3)) (f3 := (f 25)) (f4 := (f 26)) (f5 := (f 27)) (h := (f 1)) (u := (f 28)) (f8 := (f 29)) (t := (f 0)) (sc := (f 3)) (sr := (f 4)) (cl := (f 2)) (tS := (f 30)) (f14 := (f 31)) (nc := (f 32)) (f16 := (f 33)) (sP := (f 34)) (tL := (f 35)) (lP := (f 36)) (f22 := (f 59)) (f23 := (f 60)) (f24 := (f 61)) (f25 := (f 62)) (f26 := (f 63)) (n := (f 37)) (f31 := (f 41)) (f32 := (f 38)) (g0 := (g 15)) (g1 := (g 16)) (co := (g 0)) (ro := (g 1)) (br := (g 2)) (kd := (g 17)) (hf := (g 18)) (to := (g 19)) (K := (g 20)) (g9 := (g 21)) (V := (g 22)) (g11 := (g 23)) (g12 := (g 24)) (g13 := (g 56)) (g14 := (g 57)) (g15 := (g 58)) (g16 := (g 25)) (g17 := (g 26)) (g18 := (g 27)) (g19 := (g 28)) R hI.sky hI.so
  obtain ⟨o2, e2, h2⟩ := yw_bothM (x := (zw_a xs i 1)) (y := (zw_a xs i 2)) (w := (zw_a xs i 3)) (mc := (f 83)) (f1 := (f 84)) (n := (f 88)) (f3 := (f 90)) (ni := (f 89)) (m := (g 67)) (mk := (g 76)) (g2 := (g 80)) (mh := (g 78)) (mt := (g 79)) (C := (g 75)) (g6 := (g 81)) (g7 := (g 82)) (g8 := (g 103)) (g9 := (g 87)) (g10 := (g 88)) (tf := (g 85)) (tt := (g 86)) (g13 := (g 89)) R hI.sky tl
  refine zv_ald (ins := .aload_n 1) (len := 1) hB (by decide +kernel) rfl rfl rfl ?_
  refine zw_arg (j := 1) hB hR i0 i6 hL (by decide +kernel) (by decide) (by decide) rfl ?_
  refine zw_arg (j := 2) hB hR i0 i6 hL (by decide +kernel) (by decide) (by decide) rfl ?_
  refine zw_arg (j := 3) hB hR i0 i6 hL (by decide +kernel) (by decide) (by decide) rfl ?_
  refine zv_cv (i := 141) (c := 0) (mm2 := zxm175) (rm2 := (13, 780)) (va := [.inl (zw_a xs i 1), .inl (zw_a xs i 2), .inl (zw_a xs i 3)]) (S := []) hB (zE_up (by rfl) (by rfl) (by rfl) (by rfl) (by rfl) (zo_X_both e1)) (by decide +kernel) rfl rfl (by decide) (by decide) rfl ?_
  refine zv_pop hB (by decide +kernel) rfl ?_
  refine zv_ald (ins := .aload_n 2) (len := 1) hB (by decide +kernel) rfl rfl rfl ?_
  refine zw_arg (j := 1) hB hR i0 i6 hL (by decide +kernel) (by decide) (by decide) rfl ?_
  refine zw_arg (j := 2) hB hR i0 i6 hL (by decide +kernel) (by decide) (by decide) rfl ?_
  refine zw_arg (j := 3) hB hR i0 i6 hL (by decide +kernel) (by decide) (by decide) rfl ?_
  refine zv_cv (i := 144) (c := 1) (mm2 := zxm310) (rm2 := (7, 420)) (va := [.inl (zw_a xs i 1), .inl (zw_a xs i 2), .inl (zw_a xs i 3)]) (S := []) hB (zE_up (by rfl) (by rfl) (by rfl) (by rfl) (by rfl) (zo_M_both e2)) (by decide +kernel) rfl rfl (by decide) (by decide) rfl ?_
  refine zv_pop hB (by decide +kernel) rfl ?_
  refine zv_goto hB (off := 240) (t := 1593) (by decide +kernel) rfl ?_
  exact zw_tail hB i0 i6 hL (k _ _ ⟨hI.law, hI.sky, hI.sea, hI.tape, hI.tale, hI.kept, h1, hI.le, hI.ln⟩)
theorem zc_hidden {good : Nat → List zNV → List zNV → List zNV → List (Int → Int) → Prop} {Lx : Nat} {xs : Nat → Int32} {i : Int} {f : Nat → Int} {g : Nat → Int → Int} (hL : Lx ≤ 3072) (hB : zw_B good) (hR : zw_R Lx xs good) (i0 : 0 ≤ i) (i6 : i + 6 ≤ Lx) (hI : zI f g) (k : ∀ f2 g2, zI f2 g2 → good 18 (zw_lc (i + 6)) [] (zE_F f2) (zE_G g2)) : good 1356 (zw_lc i) [] (zE_F f) (zE_G g) := by
  obtain ⟨L, R⟩ := hI.law
  have tl := zI_tl hI
  obtain ⟨o1, e1, h1⟩ := yw_hiddenX (x := (zw_a xs i 1)) (y := (zw_a xs i 2)) (w := (zw_a xs i 3)) (n := (f 37)) (f5 := (f 25)) (f6 := (f 26)) (f7 := (f 27)) (h := (f 1)) (u := (f 28)) (f10 := (f 29)) (t := (f 0)) (sc := (f 3)) (sr := (f 4)) (cl := (f 2)) (tS := (f 30)) (f16 := (f 31)) (nc := (f 32)) (f18 := (f 33)) (sP := (f 34)) (tL := (f 35)) (lP := (f 36)) (f24 := (f 41)) (f25 := (f 38)) (f26 := (f 64)) (g0 := (g 15)) (g1 := (g 16)) (co := (g 0)) (ro := (g 1)) (br := (g 2)) (kd := (g 17)) (hf := (g 18)) (to := (g 19)) (K := (g 20)) (g9 := (g 21)) (V := (g 22)) (g11 := (g 23)) (g12 := (g 24)) (g13 := (g 25)) (g14 := (g 26)) (g15 := (g 27)) (g16 := (g 28)) R hI.sky hI.so
  obtain ⟨o2, e2, h2⟩ := yw_hiddenM (x := (zw_a xs i 1)) (y := (zw_a xs i 2)) (w := (zw_a xs i 3)) (n := (f 88)) (mc := (f 83)) (f2 := (f 84)) (f3 := (f 90)) (ni := (f 89)) (m := (g 67)) (mk := (g 76)) (g2 := (g 80)) (mh := (g 78)) (mt := (g 79)) (C := (g 75)) (g6 := (g 81)) (g7 := (g 82)) (g8 := (g 87)) (g9 := (g 88)) (tf := (g 85)) (tt := (g 86)) (g12 := (g 89)) R hI.sky tl
  refine zv_ald (ins := .aload_n 1) (len := 1) hB (by decide +kernel) rfl rfl rfl ?_
  refine zw_arg (j := 1) hB hR i0 i6 hL (by decide +kernel) (by decide) (by decide) rfl ?_
  refine zw_arg (j := 2) hB hR i0 i6 hL (by decide +kernel) (by decide) (by decide) rfl ?_
  refine zw_arg (j := 3) hB hR i0 i6 hL (by decide +kernel) (by decide) (by decide) rfl ?_
  refine zv_cv (i := 145) (c := 0) (mm2 := zxm177) (rm2 := (21, 1260)) (va := [.inl (zw_a xs i 1), .inl (zw_a xs i 2), .inl (zw_a xs i 3)]) (S := []) hB (zE_up (by rfl) (by rfl) (by rfl) (by rfl) (by rfl) (zo_X_hidden e1)) (by decide +kernel) rfl rfl (by decide) (by decide) rfl ?_
  refine zv_pop hB (by decide +kernel) rfl ?_
  refine zv_ald (ins := .aload_n 2) (len := 1) hB (by decide +kernel) rfl rfl rfl ?_
  refine zw_arg (j := 1) hB hR i0 i6 hL (by decide +kernel) (by decide) (by decide) rfl ?_
  refine zw_arg (j := 2) hB hR i0 i6 hL (by decide +kernel) (by decide) (by decide) rfl ?_
  refine zw_arg (j := 3) hB hR i0 i6 hL (by decide +kernel) (by decide) (by decide) rfl ?_
  refine zv_cv (i := 148) (c := 1) (mm2 := zxm312) (rm2 := (8, 480)) (va := [.inl (zw_a xs i 1), .inl (zw_a xs i 2), .inl (zw_a xs i 3)]) (S := []) hB (zE_up (by rfl) (by rfl) (by rfl) (by rfl) (by rfl) (zo_M_hidden e2)) (by decide +kernel) rfl rfl (by decide) (by decide) rfl ?_
  refine zv_pop hB (by decide +kernel) rfl ?_
  refine zv_goto hB (off := 197) (t := 1593) (by decide +kernel) rfl ?_
  exact zw_tail hB i0 i6 hL (k _ _ ⟨hI.law, zI_sky hI fun j _ _ => h2 j, zI_sea hI fun j _ _ => h2 j, hI.tape, hI.tale, hI.kept, h1, hI.le, hI.ln⟩)
theorem zc_log {good : Nat → List zNV → List zNV → List zNV → List (Int → Int) → Prop} {Lx : Nat} {xs : Nat → Int32} {i : Int} {f : Nat → Int} {g : Nat → Int → Int} (hL : Lx ≤ 3072) (hB : zw_B good) (hR : zw_R Lx xs good) (i0 : 0 ≤ i) (i6 : i + 6 ≤ Lx) (hI : zI f g) (k : ∀ f2 g2, zI f2 g2 → good 18 (zw_lc (i + 6)) [] (zE_F f2) (zE_G g2)) : good 1399 (zw_lc i) [] (zE_F f) (zE_G g) := by
  obtain ⟨L, R⟩ := hI.law
  have tl := zI_tl hI
  obtain ⟨o1, e1, h1⟩ := yw_logX (a := (zw_a xs i 1)) (w := (zw_a xs i 2)) (ln := (f 37)) (n := (f 6)) (t := (f 0)) (f4 := (f 42)) (h := (f 1)) (f6 := (f 43)) (u := (f 28)) (f8 := (f 44)) (cl := (f 2)) (f10 := (f 45)) (sc := (f 3)) (f12 := (f 46)) (sr := (f 4)) (f14 := (f 47)) (ch := (f 48)) (f16 := (f 49)) (f20 := (f 25)) (f21 := (f 26)) (f22 := (f 27)) (f23 := (f 29)) (tS := (f 30)) (f25 := (f 31)) (nc := (f 32)) (f27 := (f 33)) (sP := (f 34)) (nn := (f 38)) (tL := (f 35)) (lP := (f 36)) (f34 := (f 41)) (T := (g 7)) (g1 := (g 59)) (gl := (g 6)) (co := (g 0)) (g4 := (g 29)) (ro := (g 1)) (g6 := (g 30)) (br := (g 2)) (g8 := (g 31)) (wc := (g 3)) (g10 := (g 32)) (wr := (g 4)) (g12 := (g 33)) (g13 := (g 15)) (g14 := (g 16)) (kd := (g 17)) (hf := (g 18)) (to := (g 19)) (K := (g 20)) (g19 := (g 21)) (V := (g 22)) (g21 := (g 23)) (g22 := (g 24)) (g23 := (g 25)) (nr := (g 26)) (g25 := (g 27)) (g26 := (g 28)) R hI.sky hI.sea hI.tape.2.2.2 hI.so
  obtain ⟨o2, e2, h2⟩ := yw_logM (a := (zw_a xs i 1)) (w := (zw_a xs i 2)) (ln := (f 88)) (n := (f 74)) (mc := (f 83)) (f3 := (f 84)) (f4 := (f 90)) (nn := (f 89)) (A := (g 104)) (M := (g 68)) (B := (g 105)) (sp := (g 106)) (m := (g 67)) (aA := (g 99)) (mk := (g 76)) (g := (g 80)) (mh := (g 78)) (mt := (g 79)) (C := (g 75)) (S := (g 81)) (d1 := (g 82)) (d2 := (g 87)) (d3 := (g 88)) (tf := (g 85)) (tt := (g 86)) (d4 := (g 89)) R hI.sky hI.sea hI.tape.2.2.2 tl
  refine zv_ald (ins := .aload_n 1) (len := 1) hB (by decide +kernel) rfl rfl rfl ?_
  refine zw_arg (j := 1) hB hR i0 i6 hL (by decide +kernel) (by decide) (by decide) rfl ?_
  refine zw_arg (j := 2) hB hR i0 i6 hL (by decide +kernel) (by decide) (by decide) rfl ?_
  refine zv_cv (i := 149) (c := 0) (mm2 := zxm182) (rm2 := (14, 840)) (va := [.inl (zw_a xs i 1), .inl (zw_a xs i 2)]) (S := []) hB (zE_up (by rfl) (by rfl) (by rfl) (by rfl) (by rfl) (zo_X_log e1)) (by decide +kernel) rfl rfl (by decide) (by decide) rfl ?_
  refine zv_pop hB (by decide +kernel) rfl ?_
  refine zv_ald (ins := .aload_n 2) (len := 1) hB (by decide +kernel) rfl rfl rfl ?_
  refine zw_arg (j := 1) hB hR i0 i6 hL (by decide +kernel) (by decide) (by decide) rfl ?_
  refine zw_arg (j := 2) hB hR i0 i6 hL (by decide +kernel) (by decide) (by decide) rfl ?_
  refine zv_cv (i := 152) (c := 1) (mm2 := zxm314) (rm2 := (7, 420)) (va := [.inl (zw_a xs i 1), .inl (zw_a xs i 2)]) (S := []) hB (zE_up (by rfl) (by rfl) (by rfl) (by rfl) (by rfl) (zo_M_log e2)) (by decide +kernel) rfl rfl (by decide) (by decide) rfl ?_
  refine zv_pop hB (by decide +kernel) rfl ?_
  refine zv_goto hB (off := 164) (t := 1593) (by decide +kernel) rfl ?_
  exact zw_tail hB i0 i6 hL (k _ _ ⟨hI.law, zI_sky hI h2.2, zI_sea hI h2.2, zI_size hI h1.1 (h2.1.trans (by rw [hI.tale.1, hI.tape.1])) (by unfold yw_logS; split; exact .inl rfl; split; exact .inl rfl; split; exact .inl rfl; split; exact .inl rfl; exact .inr rfl), hI.tale, hI.kept, h1.2, hI.le, hI.ln⟩)
end
