/-! fastest: both sides answer the same. -/
section YLG
variable {L : zLW} {K V kd fr hf to C mk mf mh mt : Int → Int} {nc tS tL sP lP mc : Int} {t h u cl sc sr ch ts p i s : Int} {co ro br wc wr m gp gl : Int → Int} {hs us : Nat → Int} {cs rs : Nat → Int → Int}
/-- the place an hour on -/
def yw_nx (L : zLW) (tS cl sc sr h u : Int) (co ro br gl : Int → Int) (p i : Int) : Int := if yv_see L tS h u cl sc sr co ro br (p % 24) (p / 24) i = true then yg_st gl p (yg_tr (p % 24) (yv_st h co i)) (ro i - p / 24) else p
/-- the skies of the hours that come -/
def yw_sq (t h u cl sc sr ch ts : Int) (co ro br wc wr gl : Int → Int) (hs us : Nat → Int) (cs rs : Nat → Int → Int) : Prop :=
  (hs 0 = h ∧ us 0 = u ∧ cs 0 = co ∧ rs 0 = ro) ∧ ∀ k, zf_Sky_passHour (hs k) (us k) (cs k) wc (rs k) wr = some (hs (k + 1), us (k + 1), cs (k + 1), rs (k + 1)) ∧ yw_wo t (hs k) (us k) cl sc sr ch ts (cs k) (rs k) br wc wr gl
theorem yw_sq_ex (w : yw_wo t h u cl sc sr ch ts co ro br wc wr gl) : ∃ hs us cs rs, yw_sq t h u cl sc sr ch ts co ro br wc wr gl hs us cs rs := by
  have nx : ∀ q : {q : Int × Int × (Int → Int) × (Int → Int) // yw_wo t q.1 q.2.1 cl sc sr ch ts q.2.2.1 q.2.2.2 br wc wr gl}, ∃ q2 : {q : Int × Int × (Int → Int) × (Int → Int) // yw_wo t q.1 q.2.1 cl sc sr ch ts q.2.2.1 q.2.2.2 br wc wr gl}, zf_Sky_passHour q.1.1 q.1.2.1 q.1.2.2.1 wc q.1.2.2.2 wr = some q2.1 := fun q => by
    obtain ⟨gp, m, k, z⟩ := q.2
    obtain ⟨h', u', co', ro', m', e2, -, k3, e4⟩ := yk_pass k
    exact ⟨⟨(h', u', co', ro'), gp, m', k3, yk_sea_fr z fun j hj => e4 j (by omega) (by omega) (by omega)⟩, e2⟩
  obtain ⟨F, hF⟩ := Classical.axiomOfChoice nx
  refine ⟨fun k => (Nat.rec (motive := fun _ => {q : Int × Int × (Int → Int) × (Int → Int) // yw_wo t q.1 q.2.1 cl sc sr ch ts q.2.2.1 q.2.2.2 br wc wr gl}) ⟨(h, u, co, ro), w⟩ (fun _ q => F q) k).1.1, fun k => (Nat.rec (motive := fun _ => {q : Int × Int × (Int → Int) × (Int → Int) // yw_wo t q.1 q.2.1 cl sc sr ch ts q.2.2.1 q.2.2.2 br wc wr gl}) ⟨(h, u, co, ro), w⟩ (fun _ q => F q) k).1.2.1, fun k => (Nat.rec (motive := fun _ => {q : Int × Int × (Int → Int) × (Int → Int) // yw_wo t q.1 q.2.1 cl sc sr ch ts q.2.2.1 q.2.2.2 br wc wr gl}) ⟨(h, u, co, ro), w⟩ (fun _ q => F q) k).1.2.2.1, fun k => (Nat.rec (motive := fun _ => {q : Int × Int × (Int → Int) × (Int → Int) // yw_wo t q.1 q.2.1 cl sc sr ch ts q.2.2.1 q.2.2.2 br wc wr gl}) ⟨(h, u, co, ro), w⟩ (fun _ q => F q) k).1.2.2.2, ⟨rfl, rfl, rfl, rfl⟩, fun k => ⟨hF _, (Nat.rec (motive := fun _ => {q : Int × Int × (Int → Int) × (Int → Int) // yw_wo t q.1 q.2.1 cl sc sr ch ts q.2.2.1 q.2.2.2 br wc wr gl}) ⟨(h, u, co, ro), w⟩ (fun _ q => F q) k).2⟩⟩
def yw_pos (L : zLW) (tS cl sc sr : Int) (hs us : Nat → Int) (cs rs : Nat → Int → Int) (br gl : Int → Int) (p0 i : Int) : Nat → Int
  | 0 => p0
  | k + 1 => yw_nx L tS cl sc sr (hs k) (us k) (cs k) (rs k) br gl (yw_pos L tS cl sc sr hs us cs rs br gl p0 i k) i
theorem yw_nx_in (w : yw_wo t h u cl sc sr ch ts co ro br wc wr gl) (p1 : 0 ≤ p) (p2 : p < 288) (i1 : 0 ≤ i) (i2 : i < 24) : 0 ≤ yw_nx L tS cl sc sr h u co ro br gl p i ∧ yw_nx L tS cl sc sr h u co ro br gl p i < 288 := by
  obtain ⟨gp, m, ⟨-, -, -, -, -, -, -, ki⟩, -⟩ := w
  obtain ⟨⟨-, ⟨r1, r2⟩, -⟩, -, -⟩ := ki i i1 i2
  unfold yw_nx
  split
  · exact yg_st_in p1 p2 (by omega) (by omega)
  · exact ⟨p1, p2⟩
theorem yw_pos_in (q : yw_sq t h u cl sc sr ch ts co ro br wc wr gl hs us cs rs) (p1 : 0 ≤ p) (p2 : p < 288) (i1 : 0 ≤ i) (i2 : i < 24) : ∀ k, 0 ≤ yw_pos L tS cl sc sr hs us cs rs br gl p i k ∧ yw_pos L tS cl sc sr hs us cs rs br gl p i k < 288
  | 0 => ⟨p1, p2⟩
  | k + 1 => by
    obtain ⟨a, b⟩ := yw_pos_in q p1 p2 i1 i2 k
    exact yw_nx_in (q.2 k).2 a b i1 i2
theorem yw_stepE (R : yl_R L K V nc tS tL sP lP kd fr hf to mc C mk mf mh mt) (w : yw_wo t h u cl sc sr ch ts co ro br wc wr gl) (p1 : 0 ≤ p) (p2 : p < 288) (i1 : 0 ≤ i) (i2 : i < 24) (hti : zb t i.toNat = true) {f2 f3 as ho f14 : Int} {g S : Int → Int} (hc : yv_ca L sP h u co ro br as ho) :
    zh_ok (zf_Pilot_step p i f2 f3 h u t sc sr cl tS as ho nc f14 sP g co ro br kd hf to K S V gl) fun o => o.1 = yw_nx L tS cl sc sr h u co ro br gl p i ∧ yv_ca L sP h u co ro br o.2.2.2.1 o.2.2.2.2.1 := by
  obtain ⟨gp, m, k, z⟩ := w
  obtain ⟨as', ho', a', g', S', e, hc'⟩ := yx_step (f2 := f2) (f3 := f3) (f14 := f14) (g := g) (S := S) R k z p1 p2 i1 i2 hti hc
  exact ⟨_, e, rfl, hc'⟩
/-- all first legs, an hour on -/
theorem yw_sflE (R : yl_R L K V nc tS tL sP lP kd fr hf to mc C mk mf mh mt) (w : yw_wo t h u cl sc sr ch ts co ro br wc wr gl) {x y as ho a : Int} {G g S : Int → Int} (hc : yv_ca L sP h u co ro br as ho) (hG : ∀ i, 0 ≤ i → i < 24 → zb t i.toNat = true → 0 ≤ G i ∧ G i < 288) :
    zh_ok (zf_Pilot_stepFirstLegs t x y h u sc sr cl tS as ho nc a sP G g co ro br kd hf to K S V gl) fun o => yv_ca L sP h u co ro br o.2.2.1 o.2.2.2.1 ∧ ∀ i, 0 ≤ i → i < 24 → zb t i.toNat = true → o.2.2.2.2.2.1 i = yw_nx L tS cl sc sr h u co ro br gl (G i) i := by
  have tin : 0 ≤ t ∧ t ≤ 2147483647 := by obtain ⟨gp, m, ⟨⟨ht, -⟩, -⟩, -⟩ := w; exact ⟨ht.1, by have := ht.2; omega⟩
  unfold zf_Pilot_stepFirstLegs
  refine zh_bind (Q := fun o => yv_ca L sP h u co ro br o.2.2.1 o.2.2.2.1 ∧ ∀ i, 0 ≤ i → i < 24 → zb t i.toNat = true → o.2.2.2.2.2.1 i = yw_nx L tS cl sc sr h u co ro br gl (G i) i) (zh_loop (F := fun f j (b : Int × Int × Int × Int × Int × (Int → Int) × (Int → Int) × (Int → Int)) => zf_Pilot_stepFirstLegs_l0 t h u sc sr cl tS nc sP co ro br kd hf to K V gl f j b.1 b.2.1 b.2.2.1 b.2.2.2.1 b.2.2.2.2.1 b.2.2.2.2.2.1 b.2.2.2.2.2.2.1 b.2.2.2.2.2.2.2) (N := 24) (I := fun j o => yv_ca L sP h u co ro br o.2.2.1 o.2.2.2.1 ∧ (∀ i, 0 ≤ i → i < j → zb t i.toNat = true → o.2.2.2.2.2.1 i = yw_nx L tS cl sc sr h u co ro br gl (G i) i) ∧ ∀ i, j ≤ i → o.2.2.2.2.2.1 i = G i) (fun f j b j0 j1 ha kk => ?_) 24 0 (x, y, as, ho, a, G, g, S) zi_fu (by decide) (by decide) (by decide) (by decide) ⟨hc, fun i i0 i1 => by omega, fun _ _ => rfl⟩) fun q hq => zh_ret hq
  obtain ⟨b1, b2, b3, b4, b5, b6, b7, b8⟩ := b
  obtain ⟨a1, a2, a3⟩ := ha
  dsimp only at a1 a2 a3
  show zh_ok (zf_Pilot_stepFirstLegs_l0_b t h u sc sr cl tS nc sP co ro br kd hf to K V gl (zf_Pilot_stepFirstLegs_l0 t h u sc sr cl tS nc sP co ro br kd hf to K V gl f) j b1 b2 b3 b4 b5 b6 b7 b8) _
  unfold zf_Pilot_stepFirstLegs_l0_b
  refine zh_ite (fun hj => ?_) fun hj => zh_ret ⟨a1, fun i i0 i1 ht => a2 i i0 (by omega) ht⟩
  rw [ze_Sky_hasStar tin.1 tin.2, zl_b, zi_w_id (x := j + 1) (by omega) (by omega)]
  have k2 : ∀ c1 c2 c3 c4 c5 c6 c7 c8, yv_ca L sP h u co ro br c3 c4 → (∀ i, 0 ≤ i → i < j + 1 → zb t i.toNat = true → c6 i = yw_nx L tS cl sc sr h u co ro br gl (G i) i) → (∀ i, j + 1 ≤ i → c6 i = G i) → zh_ok (zf_Pilot_stepFirstLegs_l0 t h u sc sr cl tS nc sP co ro br kd hf to K V gl f (j + 1) c1 c2 c3 c4 c5 c6 c7 c8) _ := fun c1 c2 c3 c4 c5 c6 c7 c8 q1 q2 q3 => kk (c1, c2, c3, c4, c5, c6, c7, c8) hj ⟨q1, q2, q3⟩
  refine zh_ite (fun q => k2 _ _ _ _ _ _ _ _ a1 (fun i i0 i1 ht => ?_) fun i i1 => a3 i (by omega)) fun q => ?_
  · by_cases e : i = j
    · subst e
      have : zs_has 24 t i = 1 := by
        unfold zs_has
        rw [if_pos ⟨i0, hj, by rw [zb_tb2 tin.1 tin.2]; exact ht⟩]
      rw [this] at q
      exact absurd q (by decide)
    · exact a2 i i0 (by omega) ht
  · have hti := yw_hs tin.1 tin.2 q
    have hp := hG j j0 hj hti
    have ej := a3 j (Int.le_refl j)
    rw [ej]
    refine zh_cond (zi_ix_of j0 hj) (zh_bind (yw_stepE R w hp.1 hp.2 j0 hj hti a1) fun r5 h5 => k2 _ _ _ _ _ _ _ _ h5.2 (fun i i0 i1 ht => ?_) fun i i1 => ?_)
    · by_cases e : i = j
      · subst e; rw [zv_up_s]; exact h5.1
      · rw [zv_up_n e]; exact a2 i i0 (by omega) ht
    · rw [zv_up_n (by omega)]; exact a3 i (by omega)
end YLG
