/-! fastest in the class: the first hour, the first star. -/
section YLF
variable {L : zLW} {K V kd fr hf to C mk mf mh mt : Int → Int} {nc tS tL sP lP mc : Int} {t h u cl sc sr ch ts p i s : Int} {co ro br wc wr m gp gl : Int → Int} {hs us : Nat → Int} {cs rs : Nat → Int → Int}
def yw_hit (t : Int) (P : Int → Nat → Int) (pl : Int) (n k : Nat) (i : Int) : Prop := (1 ≤ k ∧ k ≤ n) ∧ (0 ≤ i ∧ i < 24 ∧ zb t i.toNat = true ∧ P i k = pl) ∧ (∀ j, 0 ≤ j → j < i → zb t j.toNat = true → P j k ≠ pl) ∧ ∀ l j, 1 ≤ l → l < k → 0 ≤ j → j < 24 → zb t j.toNat = true → P j l ≠ pl
def yw_noh (t : Int) (P : Int → Nat → Int) (pl : Int) (n : Nat) : Prop := ∀ l j, 1 ≤ l → l ≤ n → 0 ≤ j → j < 24 → zb t j.toNat = true → P j l ≠ pl
theorem yw_turnE (q : yw_sq t h u cl sc sr ch ts co ro br wc wr gl hs us cs rs) {k : Nat} {as : Int} {g : Int → Int} : ∃ g', zf_Pilot_turnOnward (hs k) (us k) as (cs k) wc (rs k) wr g = some (hs (k + 1), us (k + 1), 0, cs (k + 1), rs (k + 1), g') := by
  obtain ⟨g', e5, -⟩ := ze_open (f := as) (g := g)
  refine ⟨g', ?_⟩
  unfold zf_Pilot_turnOnward
  rw [(q.2 k).1, zl_b, e5, zl_b]
theorem yw_l1E {x4 x7 : Int} (h1 : 0 ≤ t) (h2 : t ≤ 2147483647) {f3 f4 f5 f6 f11 f12 f14 : Int} {g0 g1 g2 g3 g9 g14 : Int → Int} :
    zh_ok (zf_Pilot_findFastest_l1 x4 x7 t f3 f4 f5 f6 f11 f12 f14 g0 g1 g2 g3 g9 g14 zi_fu 0) fun o => match o with
      | .inl _ => ∀ i, 0 ≤ i → i < 24 → zb t i.toNat = true → g0 i ≠ x4
      | .inr b => b.1 = 1 ∧ b.2.2.2.2.2.2.2.2.1 = x7 ∧ ∃ i, (0 ≤ i ∧ i < 24 ∧ zb t i.toNat = true ∧ g0 i = x4) ∧ (∀ j, 0 ≤ j → j < i → zb t j.toNat = true → g0 j ≠ x4) ∧ b.2.2.2.2.2.2.2.2.2.1 = i := by
  refine zh_loop (F := fun f j (_ : Unit) => zf_Pilot_findFastest_l1 x4 x7 t f3 f4 f5 f6 f11 f12 f14 g0 g1 g2 g3 g9 g14 f j) (N := 24) (I := fun j _ => ∀ i, 0 ≤ i → i < j → zb t i.toNat = true → g0 i ≠ x4) (fun f j b j0 j1 ha kk => ?_) 24 0 () zi_fu (by decide) (by decide) (by decide) (by decide) (fun i i0 i1 => by omega)
  show zh_ok (zf_Pilot_findFastest_l1_b x4 x7 t f3 f4 f5 f6 f11 f12 f14 g0 g1 g2 g3 g9 g14 (zf_Pilot_findFastest_l1 x4 x7 t f3 f4 f5 f6 f11 f12 f14 g0 g1 g2 g3 g9 g14 f) j) _
  unfold zf_Pilot_findFastest_l1_b
  refine zh_ite (fun hj => ?_) fun hj => zh_ret fun i i0 i1 ht => ha i i0 (by omega) ht
  rw [ze_Sky_hasStar h1 h2, zl_b, zi_w_id (x := j + 1) (by omega) (by omega)]
  refine zh_ite (fun q => kk () hj fun i i0 i1 ht => ?_) fun q => zh_cond (zi_ix_of j0 hj) (zh_ite (fun e => zh_ret ⟨rfl, rfl, j, ⟨j0, hj, yw_hs h1 h2 q, e⟩, ha, rfl⟩) fun e => kk () hj fun i i0 i1 ht => ?_)
  · by_cases e : i = j
    · subst e
      have : zs_has 24 t i = 1 := by
        unfold zs_has
        rw [if_pos ⟨i0, hj, by rw [zb_tb2 h1 h2]; exact ht⟩]
      rw [this] at q
      exact absurd q (by decide)
    · exact ha i i0 (by omega) ht
  · by_cases e2 : i = j
    · subst e2; exact e
    · exact ha i i0 (by omega) ht
theorem yw_findFE (R : yl_R L K V nc tS tL sP lP kd fr hf to mc C mk mf mh mt) (q : yw_sq t h u cl sc sr ch ts co ro br wc wr gl hs us cs rs) {x3 x4 x5 x y as ho a f16 f17 : Int} {G g S A : Int → Int} (hc : yv_ca L sP h u co ro br as ho) (q3 : 0 ≤ x3) (q4 : x3 < 288) (q5 : 0 ≤ x5) (q6 : x5 ≤ 48) (hne : x3 ≠ x4) :
    zh_ok (zf_Pilot_findFastest x3 x4 x5 t x y h u sc sr cl tS as ho nc a sP f16 f17 G g co ro br kd hf to K S V gl wc wr A) fun o => (o.1 = 1 ∧ ∃ (k : Nat) (i : Int), yw_hit t (fun i => yw_pos L tS cl sc sr hs us cs rs br gl x3 i) x4 x5.toNat k i ∧ o.2.2.2.2.2.2.2.2.1 = k ∧ o.2.2.2.2.2.2.2.2.2.1 = i) ∨ (o.1 = 0 ∧ yw_noh t (fun i => yw_pos L tS cl sc sr hs us cs rs br gl x3 i) x4 x5.toNat) := by
  have w : yw_wo t h u cl sc sr ch ts co ro br wc wr gl := by
    obtain ⟨⟨rfl, rfl, rfl, rfl⟩, q2⟩ := q
    exact (q2 0).2
  have tin : 0 ≤ t ∧ t ≤ 2147483647 := by obtain ⟨gp, m, ⟨⟨ht, -⟩, -⟩, -⟩ := w; exact ⟨ht.1, by have := ht.2; omega⟩
  unfold zf_Pilot_findFastest
  rw [if_neg hne]
  obtain ⟨G2, e1, hG⟩ := ze_fill24 (v := x3) (g := G)
  rw [e1, zl_b]
  refine zh_sum (Q := fun o => match o with
    | .inl _ => yw_noh t (fun i => yw_pos L tS cl sc sr hs us cs rs br gl x3 i) x4 x5.toNat
    | .inr o => o.1 = 1 ∧ ∃ (k : Nat) (i : Int), yw_hit t (fun i => yw_pos L tS cl sc sr hs us cs rs br gl x3 i) x4 x5.toNat k i ∧ o.2.2.2.2.2.2.2.2.1 = k ∧ o.2.2.2.2.2.2.2.2.2.1 = i) (zh_loop (F := fun f j (b : Int × Int × Int × Int × Int × Int × Int × (Int → Int) × (Int → Int) × (Int → Int) × (Int → Int) × (Int → Int) × (Int → Int)) => zf_Pilot_findFastest_l0 x4 x5 t sc sr cl tS nc sP br kd hf to K V gl wc wr f j b.1 b.2.1 b.2.2.1 b.2.2.2.1 b.2.2.2.2.1 b.2.2.2.2.2.1 b.2.2.2.2.2.2.1 b.2.2.2.2.2.2.2.1 b.2.2.2.2.2.2.2.2.1 b.2.2.2.2.2.2.2.2.2.1 b.2.2.2.2.2.2.2.2.2.2.1 b.2.2.2.2.2.2.2.2.2.2.2.1 b.2.2.2.2.2.2.2.2.2.2.2.2) (N := x5 + 1) (I := fun j o => ∃ k : Nat, j = k + 1 ∧ (o.2.2.1 = hs k ∧ o.2.2.2.1 = us k ∧ o.2.2.2.2.2.2.2.2.2.1 = cs k ∧ o.2.2.2.2.2.2.2.2.2.2.1 = rs k) ∧ yv_ca L sP (hs k) (us k) (cs k) (rs k) br o.2.2.2.2.1 o.2.2.2.2.2.1 ∧ (∀ i, 0 ≤ i → i < 24 → zb t i.toNat = true → o.2.2.2.2.2.2.2.1 i = yw_pos L tS cl sc sr hs us cs rs br gl x3 i k) ∧ yw_noh t (fun i => yw_pos L tS cl sc sr hs us cs rs br gl x3 i) x4 k) (fun f j b j0 j1 ha kk => ?_) 49 1 (x, y, h, u, as, ho, a, G2, g, co, ro, S, A) zi_fu (by omega) (by decide) (by omega) (by decide) ⟨0, rfl, ⟨q.1.1.symm, q.1.2.1.symm, q.1.2.2.1.symm, q.1.2.2.2.symm⟩, by rw [q.1.1, q.1.2.1, q.1.2.2.1, q.1.2.2.2]; exact hc, fun i i0 i1 _ => hG i i0 i1, fun l j l1 l2 => by omega⟩) (fun _ hq => zh_ret (.inr ⟨rfl, hq⟩)) fun _ hq => zh_ret (.inl hq)
  obtain ⟨b1, b2, b3, b4, b5, b6, b7, b8, b9, b10, b11, b12, b13⟩ := b
  obtain ⟨k, ek, ⟨rfl, rfl, rfl, rfl⟩, c2, hp, hn⟩ := ha
  dsimp only at c2 hp
  show zh_ok (zf_Pilot_findFastest_l0_b x4 x5 t sc sr cl tS nc sP br kd hf to K V gl wc wr (zf_Pilot_findFastest_l0 x4 x5 t sc sr cl tS nc sP br kd hf to K V gl wc wr f) j b1 b2 (hs k) (us k) b5 b6 b7 b8 b9 (cs k) (rs k) b12 b13) _
  unfold zf_Pilot_findFastest_l0_b
  refine zh_ite (fun hlt => zh_ret fun l j2 l1 l2 => hn l j2 l1 (by omega)) fun hle => ?_
  rw [zi_w_id (x := j + 1) (by omega) (by omega)]
  refine zh_bind (yw_sflE R (q.2 k).2 c2 fun i i0 i1 ht => by rw [hp i i0 i1 ht]; exact yw_pos_in q q3 q4 i0 i1 k) fun r4 h4 => ?_
  have hp2 : ∀ i, 0 ≤ i → i < 24 → zb t i.toNat = true → r4.2.2.2.2.2.1 i = yw_pos L tS cl sc sr hs us cs rs br gl x3 i (k + 1) := fun i i0 i1 ht => by
    rw [h4.2 i i0 i1 ht, hp i i0 i1 ht]; rfl
  refine zh_bind (yw_l1E tin.1 tin.2) fun o ho => ?_
  match o, ho with
  | .inl e, ho =>
    obtain ⟨g', e7⟩ := yw_turnE (k := k) (as := r4.2.2.1) (g := b13) q
    show zh_ok ((zf_Pilot_turnOnward (hs k) (us k) r4.2.2.1 (cs k) wc (rs k) wr b13).bind _) _
    rw [e7, zl_b]
    refine kk (r4.1, r4.2.1, hs (k + 1), us (k + 1), 0, r4.2.2.2.1, r4.2.2.2.2.1, r4.2.2.2.2.2.1, r4.2.2.2.2.2.2.1, cs (k + 1), rs (k + 1), r4.2.2.2.2.2.2.2, g') (by omega) ⟨k + 1, by omega, ⟨rfl, rfl, rfl, rfl⟩, yv_ca0, hp2, fun l j2 l1 l2 j3 j4 ht => ?_⟩
    by_cases e2 : l = k + 1
    · subst e2
      show yw_pos L tS cl sc sr hs us cs rs br gl x3 j2 (k + 1) ≠ x4
      rw [← hp2 j2 j3 j4 ht]
      exact ho j2 j3 j4 ht
    · exact hn l j2 l1 (by omega) j3 j4 ht
  | .inr e, ho =>
    obtain ⟨o1, o2, i, ⟨i0, i1, ht, e3⟩, o3, o4⟩ := ho
    refine zh_ret ⟨o1, k + 1, i, ⟨⟨by omega, by omega⟩, ⟨i0, i1, ht, by show yw_pos L tS cl sc sr hs us cs rs br gl x3 i (k + 1) = x4; rw [← hp2 i i0 i1 ht]; exact e3⟩, fun j2 j3 j4 ht2 => ?_, fun l j2 l1 l2 => hn l j2 l1 (by omega)⟩, by rw [o2, ek]; omega, o4⟩
    show yw_pos L tS cl sc sr hs us cs rs br gl x3 j2 (k + 1) ≠ x4
    rw [← hp2 j2 j3 (by omega) ht2]
    exact o3 j2 j3 j4 ht2
end YLF
