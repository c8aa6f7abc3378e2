/-! 83b.sees, 83c.look, 83d.lines, 83e.draw, 84a.time, 84b.cloudy, 85a.steer, 85b.steered, 86a.stars, 86b.ops, 87a.tape, 87b.kept, 87c.count, 88a.tale, 88b.read, 88c.telling, 89a.lowest, 89b.reach, 89c.figure, 89d.skies, 89e.holding, 89f.sky, 89g.sky, 90a.shared -/
section
/-! One star, seen or not, on both sides. -/
def yv_st (h : Int) (co : Int → Int) (i : Int) : Int := (co i + h) % 24
def yv_see (L : zLW) (tS h u cl sc sr : Int) (co ro br : Int → Int) (x y i : Int) : Bool :=
  decide (yg_cb (yv_st h co i) x ≤ sc ∧ yg_ab (ro i - y) ≤ sr) && (!(zb cl (yv_st h co i).toNat) && (decide (tS = 0) || yl_any L 118 (yv_lt h u i (br i) (ro i) (yv_st h co i) x y (yg_cb (yv_st h co i) x + yg_ab (ro i - y)))))
/-- what a view knows already -/
def yv_ca (L : zLW) (sP h u : Int) (co ro br : Int → Int) (as ho : Int) : Prop := ∀ j : Nat, j < 24 → zb as j = true → sP = 0 ∧ zb ho j = yl_any L 118 (yv_lt h u j (br j) (ro j) (yv_st h co j) 0 0 0)
theorem yv_ba_up {h u x y a b c d e : Int} {g : Int → Int} (hg : yv_ba h u x y g) : yv_ba h u x y (zv_up (zv_up (zv_up (zv_up (zv_up g 2 a) 3 b) 4 c) 5 d) 12 e) := hg
theorem ze_setStar {i h : Int} {g br ro co : Int → Int} (i1 : 0 ≤ i) (i2 : i < 24) (c1 : 0 ≤ co i) (c2 : co i ≤ 23) (h1 : 0 ≤ h) (h2 : h ≤ 23) : zf_Law_setStar i h g br ro co = some (zv_up (zv_up (zv_up (zv_up g 2 i) 3 (br i)) 4 (ro i)) 5 (yv_st h co i)) := by
  unfold zf_Law_setStar
  rw [zl_ci i1 (by omega), ze_Sky_standing i1 i2 c1 c2 h1 h2, zl_b]
  rfl
theorem yv_st_in {h i : Int} {co : Int → Int} : 0 ≤ yv_st h co i ∧ yv_st h co i ≤ 23 := by
  unfold yv_st
  omega
theorem zs_has1 {n t i : Int} (h1 : 0 ≤ t) (h2 : t ≤ 2147483647) (i1 : 0 ≤ i) (i2 : i < n) (h : zb t i.toNat = true) : zs_has n t i = 1 := by
  unfold zs_has
  rw [zb_tb2 h1 h2]
  exact if_pos ⟨i1, i2, h⟩
theorem zs_has0 {n t i : Int} (h1 : 0 ≤ t) (h2 : t ≤ 2147483647) (h : ¬ zb t i.toNat = true) : zs_has n t i = 0 := by
  unfold zs_has
  rw [zb_tb2 h1 h2]
  exact if_neg fun hh => h hh.2.2
section YVS
variable {L : zLW} {K V kd fr hf to C mk mf mh mt : Int → Int} {nc tS tL sP lP mc : Int} {t h u cl sc sr x y i : Int} {co ro br : Int → Int}
theorem yv_any (R : yl_R L K V nc tS tL sP lP kd fr hf to mc C mk mf mh mt) {g : Int → Int} {d : Int} (hg : yv_ba h u x y g) : yl_any L 118 (zv_up (zv_up (zv_up (zv_up (zv_up g 2 i) 3 (br i)) 4 (ro i)) 5 (yv_st h co i)) 12 d) = yl_any L 118 (yv_lt h u i (br i) (ro i) (yv_st h co i) x y d) :=
  yl_any_c R (yv_lt_of (yv_ba_up hg) rfl rfl rfl rfl rfl)
theorem yv_any0 (R : yl_R L K V nc tS tL sP lP kd fr hf to mc C mk mf mh mt) (hs : sP = 0) {a b c d : Int} {x2 y2 d2 : Int} : yl_any L 118 (yv_lt h u i a b c x y d) = yl_any L 118 (yv_lt h u i a b c x2 y2 d2) :=
  yl_any_v R hs fun j j0 j1 => by
    unfold yv_lt
    have e1 : ¬ j = 10 := by omega
    have e2 : ¬ j = 11 := by omega
    have e3 : ¬ j = 12 := by omega
    rw [if_neg e1, if_neg e1, if_neg e2, if_neg e2, if_neg e3, if_neg e3]
theorem yx_sees (R : yl_R L K V nc tS tL sP lP kd fr hf to mc C mk mf mh mt) {as ho f13 : Int} {g S : Int → Int} (ht : z24 t) (hcl : z24 cl) (h1 : 0 ≤ h) (h2 : h ≤ 23) (i1 : 0 ≤ i) (i2 : i < 24) (c1 : 0 ≤ co i) (c2 : co i ≤ 23) (r1 : 0 ≤ ro i) (r2 : ro i ≤ 11) (x1 : 0 ≤ x) (x2 : x ≤ 23) (y1 : 0 ≤ y) (y2 : y ≤ 11) (hg : yv_ba h u x y g) (hc : yv_ca L sP h u co ro br as ho) :
    ∃ as' ho' a' g' S', zf_View_sees i t h x y sc sr cl tS as ho nc f13 sP co ro g br kd hf to K S V = some ((if (zb t i.toNat && yv_see L tS h u cl sc sr co ro br x y i) = true then 1 else 0), as', ho', a', g', S') ∧ yv_ba h u x y g' ∧ yv_ca L sP h u co ro br as' ho' := by
  have hst := yv_st_in (h := h) (co := co) (i := i)
  obtain ⟨b1, b2, b3⟩ := ze_colsBetween hst.1 hst.2 x1 x2
  have hab := yg_ab_in (a := ro i - y)
  have tin : 0 ≤ t ∧ t ≤ 2147483647 := ⟨ht.1, by have := ht.2; omega⟩
  unfold zf_View_sees
  rw [ze_Sky_hasStar tin.1 tin.2, zl_b]
  by_cases hti : zb t i.toNat = true
  · rw [zs_has1 tin.1 tin.2 i1 i2 hti, if_neg (show ¬ (1 : Int) = 0 by decide), ze_Sky_standing i1 i2 c1 c2 h1 h2, zl_b, show (co i + h) % 24 = yv_st h co i from rfl, b1, zl_b, zl_ci i1 (by omega), zi_w_id (x := ro i - y) (by omega) (by omega), ze_Math_ab2 (by omega) (by omega), zl_b, hti, Bool.true_and]
    unfold yv_see
    by_cases n1 : sc < yg_cb (yv_st h co i) x
    · rw [if_pos n1, decide_eq_false (by omega), Bool.false_and, if_neg (by decide)]
      exact ⟨as, ho, f13, g, S, rfl, hg, hc⟩
    rw [if_neg n1]
    by_cases n2 : sr < yg_ab (ro i - y)
    · rw [if_pos n2, decide_eq_false (by omega), Bool.false_and, if_neg (by decide)]
      exact ⟨as, ho, f13, g, S, rfl, hg, hc⟩
    rw [if_neg n2, decide_eq_true (⟨by omega, by omega⟩ : yg_cb (yv_st h co i) x ≤ sc ∧ yg_ab (ro i - y) ≤ sr), Bool.true_and]
    by_cases n3 : zb cl (yv_st h co i).toNat = true
    · rw [zb_bit1 hst.1 (by omega) n3, if_neg (show ¬ (1 : Int) = 0 by decide), n3, Bool.not_true, Bool.false_and, if_neg (by decide)]
      exact ⟨as, ho, f13, g, S, rfl, hg, hc⟩
    rw [zb_bit0 hst.1 (by omega) n3, if_pos rfl, Bool.eq_false_iff.mpr n3, Bool.not_false, Bool.true_and]
    by_cases n4 : tS = 0
    · rw [if_pos n4, decide_eq_true n4, Bool.true_or, if_pos rfl]
      exact ⟨as, ho, f13, g, S, rfl, hg, hc⟩
    rw [if_neg n4, decide_eq_false n4, Bool.false_or]
    by_cases n5 : zb as i.toNat = true
    · rw [zb_bit1 i1 (by omega) n5, if_neg (show ¬ (1 : Int) = 0 by decide)]
      obtain ⟨s0, q⟩ := hc i.toNat (by omega) n5
      rw [show ((i.toNat : Nat) : Int) = i by omega] at q
      rw [yv_any0 R s0 (x2 := 0) (y2 := 0) (d2 := 0), ← q]
      by_cases n6 : zb ho i.toNat = true
      · rw [zb_bit1 i1 (by omega) n6, if_neg (show ¬ (1 : Int) = 0 by decide), if_pos n6]
        exact ⟨as, ho, f13, g, S, rfl, hg, hc⟩
      · rw [zb_bit0 i1 (by omega) n6, if_pos rfl, if_neg n6]
        exact ⟨as, ho, f13, g, S, rfl, hg, hc⟩
    rw [zb_bit0 i1 (by omega) n5, if_pos rfl, ze_setStar i1 i2 c1 c2 h1 h2, zl_b, zi_w_id (x := yg_cb (yv_st h co i) x + yg_ab (ro i - y)) (by omega) (by omega)]
    obtain ⟨a', S', ea⟩ := yl_anyX (lt := zv_up (zv_up (zv_up (zv_up (zv_up g 2 i) 3 (br i)) 4 (ro i)) 5 (yv_st h co i)) 12 (yg_cb (yv_st h co i) x + yg_ab (ro i - y))) R (k := 118) (f1 := f13) (S := S)
    rw [ea, zl_b, yv_any R hg]
    have hg2 : yv_ba h u x y (zv_up (zv_up (zv_up (zv_up (zv_up g 2 i) 3 (br i)) 4 (ro i)) 5 (yv_st h co i)) 12 (yg_cb (yv_st h co i) x + yg_ab (ro i - y))) := yv_ba_up hg
    have hnot : zb (zi_and ho (zi_xor (zi_shl 1 i) (-1))) i.toNat = false := by
      rw [zb_and, zb_not (by omega), zb_shl i1 (by omega), decide_eq_true rfl, Bool.not_true, Bool.and_false]
    have hset : zb (zi_or ho (zi_shl 1 i)) i.toNat = true := by
      rw [zb_or, zb_shl i1 (by omega), decide_eq_true rfl, Bool.or_true]
    have upd : ∀ ho', (∀ j : Nat, j < 24 → j ≠ i.toNat → zb ho' j = zb ho j) → (sP = 0 → zb ho' i.toNat = yl_any L 118 (yv_lt h u i (br i) (ro i) (yv_st h co i) x y (yg_cb (yv_st h co i) x + yg_ab (ro i - y)))) → (sP = 0 → yv_ca L sP h u co ro br (zi_or as (zi_shl 1 i)) ho') ∧ (sP ≠ 0 → yv_ca L sP h u co ro br as ho') := by
      intro ho' q1 q2
      refine ⟨fun s0 j hj hb => ⟨s0, ?_⟩, fun s0 j hj hb => absurd (hc j hj hb).1 s0⟩
      by_cases ej : j = i.toNat
      · subst ej
        rw [q2 s0, show ((i.toNat : Nat) : Int) = i by omega]
        exact yv_any0 R s0
      · rw [zb_or, zb_shl i1 (by omega), decide_eq_false ej, Bool.or_false] at hb
        rw [q1 j hj ej]
        exact (hc j hj hb).2
    have oth1 : ∀ j : Nat, j < 24 → j ≠ i.toNat → zb (zi_or ho (zi_shl 1 i)) j = zb ho j := fun j hj ej => by
      rw [zb_or, zb_shl i1 (by omega), decide_eq_false ej, Bool.or_false]
    have oth0 : ∀ j : Nat, j < 24 → j ≠ i.toNat → zb (zi_and ho (zi_xor (zi_shl 1 i) (-1))) j = zb ho j := fun j hj ej => by
      rw [zb_and, zb_not (by omega), zb_shl i1 (by omega), decide_eq_false ej, Bool.not_false, Bool.and_true]
    by_cases n6 : yl_any L 118 (yv_lt h u i (br i) (ro i) (yv_st h co i) x y (yg_cb (yv_st h co i) x + yg_ab (ro i - y))) = true
    · rw [if_pos n6, if_neg (show ¬ (1 : Int) = 0 by decide), zb_bit1 i1 (by omega) hset, if_neg (show ¬ (1 : Int) = 0 by decide), if_neg (show ¬ (1 : Int) = 0 by decide)]
      obtain ⟨u1, u2⟩ := upd _ oth1 (fun _ => by rw [hset, n6])
      by_cases n7 : sP = 0
      · rw [if_pos n7]
        exact ⟨_, _, _, _, _, rfl, hg2, u1 n7⟩
      · rw [if_neg n7]
        exact ⟨_, _, _, _, _, rfl, hg2, u2 n7⟩
    · rw [if_neg n6, if_pos rfl, zb_bit0 i1 (by omega) (by rw [hnot]; decide), if_pos rfl, if_pos rfl]
      obtain ⟨u1, u2⟩ := upd _ oth0 (fun _ => by rw [hnot]; exact (Bool.eq_false_iff.mpr n6).symm)
      by_cases n7 : sP = 0
      · rw [if_pos n7]
        exact ⟨_, _, _, _, _, rfl, hg2, u1 n7⟩
      · rw [if_neg n7]
        exact ⟨_, _, _, _, _, rfl, hg2, u2 n7⟩
  · rw [zs_has0 tin.1 tin.2 hti, if_pos rfl, Bool.eq_false_iff.mpr hti, Bool.false_and, if_neg (by decide)]
    exact ⟨as, ho, f13, g, S, rfl, hg, hc⟩
theorem ym_isSeen (R : yl_R L K V nc tS tL sP lP kd fr hf to mc C mk mf mh mt) {ch : Int} {wc wr m g S : Int → Int} (k : yk_sky t h u cl sc sr ch co ro br wc wr m) (i1 : 0 ≤ i) (i2 : i < 24) (hti : zb t i.toNat = true) (x1 : 0 ≤ x) (x2 : x ≤ 23) (y1 : 0 ≤ y) (y2 : y ≤ 11) :
    ∃ g' S', zf_M_isSeen (24 * y + x) i mc m mk g mh mt C S = some ((if yv_see L tS h u cl sc sr co ro br x y i = true then 1 else 0), g', S') := by
  obtain ⟨⟨ht, k126⟩, ⟨⟨h1, h2⟩, k128⟩, k129, ⟨hcl, k130⟩, ⟨⟨sc1, sc2⟩, k131⟩, ⟨⟨sr1, sr2⟩, k132⟩, -, ki⟩ := k
  obtain ⟨⟨⟨c1, c2⟩, ⟨r1, r2⟩, ⟨b1, b2⟩, -⟩, -, e⟩ := ki i i1 i2
  obtain ⟨e1, e2, e3, -, -⟩ := e hti
  have hst := yv_st_in (h := h) (co := co) (i := i)
  have hab := yg_ab_in (a := ro i - y)
  have ex : zi_rem (24 * y + x) 24 = x := by rw [zi_rem_eq (by omega) (by omega) (by decide) (by decide)]; omega
  have ey : zi_div (24 * y + x) 24 = y := by rw [zi_div_eq (by omega) (by omega) (by decide) (by decide)]; omega
  have est : (m i + m 128) % 24 = yv_st h co i := by rw [e1, k128]; rfl
  obtain ⟨t1, t2, t3, t4⟩ := ze_toRight x1 x2 hst.1 hst.2
  obtain ⟨-, q1, q2⟩ := ze_colsBetween hst.1 hst.2 x1 x2
  unfold zf_M_isSeen
  rw [ze_M_standsAt i1 i2 (by omega) (by omega) (by omega) (by omega), zl_b, est, ex, ey, t1, zl_b, ze_M_size2 (by omega) (by omega), zl_b, t4, zi_w_id (x := 24 + i) (by omega) (by omega), zl_ci (by omega) (by omega), e2, zi_w_id (x := ro i - y) (by omega) (by omega), ze_M_size2 (by omega) (by omega), zl_b, k131, k132, k130]
  unfold yv_see
  by_cases n1 : sc < yg_cb (yv_st h co i) x
  · rw [if_pos n1, decide_eq_false (by omega), Bool.false_and, if_neg (by decide)]
    exact ⟨_, _, rfl⟩
  rw [if_neg n1]
  by_cases n2 : sr < yg_ab (ro i - y)
  · rw [if_pos n2, decide_eq_false (by omega), Bool.false_and, if_neg (by decide)]
    exact ⟨_, _, rfl⟩
  rw [if_neg n2, decide_eq_true (⟨by omega, by omega⟩ : yg_cb (yv_st h co i) x ≤ sc ∧ yg_ab (ro i - y) ≤ sr), Bool.true_and]
  rw [ze_M_has hcl.1 (by have := hcl.2; omega) hst.1 (by omega), zl_b, zb_tb2 hcl.1 (by have := hcl.2; omega)]
  by_cases n3 : zb cl (yv_st h co i).toNat = true
  · rw [if_pos n3, if_neg (show ¬ (1 : Int) = 0 by decide), n3, Bool.not_true, Bool.false_and, if_neg (by decide)]
    exact ⟨_, _, rfl⟩
  obtain ⟨hc1, hc2⟩ := ze_M_hasClause R
  rw [if_neg n3, if_pos rfl, Bool.eq_false_iff.mpr n3, Bool.not_false, Bool.true_and, hc1, zl_b]
  by_cases n4 : tS = 0
  · rw [if_pos n4, decide_eq_true n4, Bool.true_or, if_pos rfl]
    exact ⟨_, _, rfl⟩
  rw [if_neg n4, decide_eq_false n4, Bool.false_or]
  obtain ⟨g2, eg, w0, w1, w2, w3, w4, w5, w6⟩ := ze_M_feelsStar (g := g) (m := m) i1 i2 (by omega) (by omega) (by omega) (by omega)
  rw [eg, zl_b, ze_way x1 x2 hst.1 hst.2 y1 y2 (by omega) (by omega), zl_b]
  obtain ⟨S', ea⟩ := yl_anyM (lt := zv_up (zv_up (zv_up g2 10 x) 11 y) 12 (yg_cb (yv_st h co i) x + yg_ab (y - ro i))) R (k := 118) (S := S)
  have el : yl_any L 118 (zv_up (zv_up (zv_up g2 10 x) 11 y) 12 (yg_cb (yv_st h co i) x + yg_ab (y - ro i))) = yl_any L 118 (yv_lt h u i (br i) (ro i) (yv_st h co i) x y (yg_cb (yv_st h co i) x + yg_ab (ro i - y))) := by
    refine yl_any_c R (yv_lt_of ⟨?_, ?_, ?_, ?_, ?_, ?_, rfl, rfl⟩ ?_ ?_ ?_ ?_ ?_)
    · exact w0.trans k128
    · exact w1.trans k129
    · exact w6 6 (by decide) (by decide)
    · exact w6 7 (by decide) (by decide)
    · exact w6 8 (by decide) (by decide)
    · exact w6 9 (by decide) (by decide)
    · exact w2
    · exact w3.trans e3
    · exact w4.trans e2
    · exact w5.trans est
    · show yg_cb (yv_st h co i) x + yg_ab (y - ro i) = yg_cb (yv_st h co i) x + yg_ab (ro i - y)
      have : yg_ab (y - ro i) = yg_ab (ro i - y) := by
        unfold yg_ab
        (repeat' split) <;> omega
      rw [this]
  rw [ea, zl_b, el]
  by_cases n6 : yl_any L 118 (yv_lt h u i (br i) (ro i) (yv_st h co i) x y (yg_cb (yv_st h co i) x + yg_ab (ro i - y))) = true
  · rw [if_pos n6]
    exact ⟨_, _, rfl⟩
  · rw [if_neg n6]
    exact ⟨_, _, rfl⟩
end YVS
end
section
/-! What is seen from a place: the same set on both sides. -/
/-- the set of the stars that are seen -/
def yv_is (L : zLW) (tS t h u cl sc sr : Int) (co ro br : Int → Int) (x y s : Int) : Prop := z24 s ∧ ∀ j : Nat, zb s j = (decide (j < 24) && (zb t j && yv_see L tS h u cl sc sr co ro br x y j))
theorem yv_is_eq {L : zLW} {tS t h u cl sc sr : Int} {co ro br : Int → Int} {x y s s2 : Int} (a : yv_is L tS t h u cl sc sr co ro br x y s) (b : yv_is L tS t h u cl sc sr co ro br x y s2) : s = s2 := z24_ext a.1 b.1 fun j _ => by rw [a.2, b.2]
section YVL
variable {L : zLW} {K V kd fr hf to C mk mf mh mt : Int → Int} {nc tS tL sP lP mc : Int} {t h u cl sc sr ch x y : Int} {co ro br wc wr m : Int → Int}
theorem yx_look_l (R : yl_R L K V nc tS tL sP lP kd fr hf to mc C mk mf mh mt) (k : yk_sky t h u cl sc sr ch co ro br wc wr m) (x1 : 0 ≤ x) (x2 : x ≤ 23) (y1 : 0 ≤ y) (y2 : y ≤ 11) : ∀ (d n0 : Nat) (s as ho f : Int) (g S : Int → Int) (n : Nat), n0 + d = 24 → d < n → z24 s → (∀ j : Nat, zb s j = (decide (j < n0) && (zb t j && yv_see L tS h u cl sc sr co ro br x y j))) → yv_ba h u x y g → yv_ca L sP h u co ro br as ho →
    ∃ s' as' ho' a' g' S', zf_View_look_l0 x y h t sc sr cl tS nc sP co ro br kd hf to K V n (n0 : Int) s as ho f g S = some (s', as', ho', a', g', S') ∧ yv_is L tS t h u cl sc sr co ro br x y s' ∧ yv_ba h u x y g' ∧ yv_ca L sP h u co ro br as' ho' := by
  intro d
  induction d with
  | zero =>
    intro n0 s as ho f g S n e hn hz hs hg hc
    obtain ⟨n, rfl⟩ : ∃ q, n = q + 1 := ⟨n - 1, by omega⟩
    refine ⟨s, as, ho, f, g, S, ?_, ⟨hz, fun j => by rw [hs, show n0 = 24 by omega]⟩, hg, hc⟩
    show zf_View_look_l0_b x y h t sc sr cl tS nc sP co ro br kd hf to K V (zf_View_look_l0 x y h t sc sr cl tS nc sP co ro br kd hf to K V n) (n0 : Int) s as ho f g S = _
    unfold zf_View_look_l0_b
    rw [if_neg (by omega)]
  | succ d ih =>
    intro n0 s as ho f g S n e hn hz hs hg hc
    obtain ⟨n, rfl⟩ : ∃ q, n = q + 1 := ⟨n - 1, by omega⟩
    obtain ⟨⟨ht, -⟩, ⟨⟨h1, h2⟩, -⟩, -, ⟨hcl, -⟩, -, -, -, ki⟩ := id k
    obtain ⟨⟨⟨c1, c2⟩, ⟨r1, r2⟩, -⟩, -⟩ := ki (n0 : Int) (by omega) (by omega)
    obtain ⟨as', ho', a', g', S', e1, hg', hc'⟩ := yx_sees (t := t) (cl := cl) (sc := sc) (sr := sr) (f13 := f) (S := S) R ht hcl h1 h2 (show 0 ≤ (n0 : Int) by omega) (by omega) c1 c2 r1 r2 x1 x2 y1 y2 hg hc
    show ∃ s' as' ho' a' g' S', zf_View_look_l0_b x y h t sc sr cl tS nc sP co ro br kd hf to K V (zf_View_look_l0 x y h t sc sr cl tS nc sP co ro br kd hf to K V n) (n0 : Int) s as ho f g S = _ ∧ _
    unfold zf_View_look_l0_b
    rw [if_pos (by omega), e1, zl_b, zi_w_id (x := (n0 : Int) + 1) (by omega) (by omega)]
    have grow := zb_grow (s := s) (i := (n0 : Int)) (n := n0) (P := fun j => (zb t j && yv_see L tS h u cl sc sr co ro br x y j)) rfl (by omega) hs
    rw [show ((n0 : Int)).toNat = n0 by omega]
    by_cases hp : (zb t n0 && yv_see L tS h u cl sc sr co ro br x y n0) = true
    · rw [if_pos hp] at grow ⊢
      rw [if_neg (show ¬ (1 : Int) = 0 by decide)]
      exact ih (n0 + 1) _ as' ho' a' g' S' n (by omega) (by omega) (z24_or hz (z24_shl (by omega) (by omega))) grow hg' hc'
    · rw [if_neg hp] at grow ⊢
      rw [if_pos rfl]
      exact ih (n0 + 1) s as' ho' a' g' S' n (by omega) (by omega) hz grow hg' hc'
theorem yx_look (R : yl_R L K V nc tS tL sP lP kd fr hf to mc C mk mf mh mt) (k : yk_sky t h u cl sc sr ch co ro br wc wr m) (x1 : 0 ≤ x) (x2 : x ≤ 23) (y1 : 0 ≤ y) (y2 : y ≤ 11) {f2 f3 f6 as ho f : Int} {g S : Int → Int} (hc : yv_ca L sP h u co ro br as ho) :
    ∃ s' as' ho' a' g' S', zf_View_look x y f2 f3 h u f6 t sc sr cl tS as ho nc f sP g co ro br kd hf to K S V = some (x, y, s', as', ho', a', g', S') ∧ yv_is L tS t h u cl sc sr co ro br x y s' ∧ yv_ca L sP h u co ro br as' ho' := by
  obtain ⟨g1, eg, hg⟩ := ze_goTo (x := x) (y := y) (f0 := f2) (f1 := f3) (h := h) (u := u) (g := g)
  obtain ⟨s', as', ho', a', g', S', e1, e2, -, e4⟩ := yx_look_l R k x1 x2 y1 y2 24 0 0 as ho f g1 S zi_fu rfl (by decide) z24_0 (fun j => by rw [zb_0, decide_eq_false (by omega), Bool.false_and]) hg hc
  refine ⟨s', as', ho', a', g', S', ?_, e2, e4⟩
  unfold zf_View_look
  rw [eg, zl_b]
  show ((zf_View_look_l0 x y h t sc sr cl tS nc sP co ro br kd hf to K V zi_fu 0 0 as ho f g1 S).bind _) = _
  rw [show zf_View_look_l0 x y h t sc sr cl tS nc sP co ro br kd hf to K V zi_fu 0 0 as ho f g1 S = _ from e1, zl_b]
theorem ym_seenFrom_l (R : yl_R L K V nc tS tL sP lP kd fr hf to mc C mk mf mh mt) (k : yk_sky t h u cl sc sr ch co ro br wc wr m) (x1 : 0 ≤ x) (x2 : x ≤ 23) (y1 : 0 ≤ y) (y2 : y ≤ 11) : ∀ (d n0 : Nat) (s : Int) (g S : Int → Int) (n : Nat), n0 + d = 24 → d < n → z24 s → (∀ j : Nat, zb s j = (decide (j < n0) && (zb t j && yv_see L tS h u cl sc sr co ro br x y j))) →
    ∃ s' g' S', zf_M_seenFrom_l0 (24 * y + x) mc m mk mh mt C n s (n0 : Int) g S = some (s', g', S') ∧ yv_is L tS t h u cl sc sr co ro br x y s' := by
  intro d
  induction d with
  | zero =>
    intro n0 s g S n e hn hz hs
    obtain ⟨n, rfl⟩ : ∃ q, n = q + 1 := ⟨n - 1, by omega⟩
    refine ⟨s, g, S, ?_, ⟨hz, fun j => by rw [hs, show n0 = 24 by omega]⟩⟩
    show zf_M_seenFrom_l0_b (24 * y + x) mc m mk mh mt C (zf_M_seenFrom_l0 (24 * y + x) mc m mk mh mt C n) s (n0 : Int) g S = _
    unfold zf_M_seenFrom_l0_b
    rw [if_neg (by omega)]
  | succ d ih =>
    intro n0 s g S n e hn hz hs
    obtain ⟨n, rfl⟩ : ∃ q, n = q + 1 := ⟨n - 1, by omega⟩
    obtain ⟨⟨ht, k126⟩, -⟩ := id k
    have tin : 0 ≤ t ∧ t ≤ 2147483647 := ⟨ht.1, by have := ht.2; omega⟩
    have grow := zb_grow (s := s) (i := (n0 : Int)) (n := n0) (P := fun j => (zb t j && yv_see L tS h u cl sc sr co ro br x y j)) rfl (by omega) hs
    have en : ((n0 : Int)).toNat = n0 := by omega
    show ∃ s' g' S', zf_M_seenFrom_l0_b (24 * y + x) mc m mk mh mt C (zf_M_seenFrom_l0 (24 * y + x) mc m mk mh mt C n) s (n0 : Int) g S = _ ∧ _
    unfold zf_M_seenFrom_l0_b
    rw [if_pos (by omega), ze_M_isTold (by rw [k126]; exact tin.1) (by rw [k126]; exact tin.2), zl_b, k126, zi_w_id (x := (n0 : Int) + 1) (by omega) (by omega)]
    by_cases hti : zb t n0 = true
    · rw [zs_has1 tin.1 tin.2 (by omega) (by omega) (by rw [en]; exact hti), if_neg (show ¬ (1 : Int) = 0 by decide)]
      obtain ⟨g', S', e1⟩ := ym_isSeen (g := g) (S := S) R k (show 0 ≤ (n0 : Int) by omega) (by omega) (by rw [en]; exact hti) x1 x2 y1 y2
      rw [e1, zl_b]
      rw [hti, Bool.true_and] at grow
      by_cases hp : yv_see L tS h u cl sc sr co ro br x y n0 = true
      · rw [if_pos hp] at grow ⊢
        rw [if_neg (show ¬ (1 : Int) = 0 by decide)]
        exact ih (n0 + 1) _ g' S' n (by omega) (by omega) (z24_or hz (z24_shl (by omega) (by omega))) grow
      · rw [if_neg hp] at grow ⊢
        rw [if_pos rfl]
        exact ih (n0 + 1) s g' S' n (by omega) (by omega) hz grow
    · rw [zs_has0 tin.1 tin.2 (by rw [en]; exact hti), if_pos rfl]
      rw [Bool.eq_false_iff.mpr hti, Bool.false_and, if_neg (by decide)] at grow
      exact ih (n0 + 1) s g S n (by omega) (by omega) hz grow
theorem ym_seenFrom (R : yl_R L K V nc tS tL sP lP kd fr hf to mc C mk mf mh mt) (k : yk_sky t h u cl sc sr ch co ro br wc wr m) (x1 : 0 ≤ x) (x2 : x ≤ 23) (y1 : 0 ≤ y) (y2 : y ≤ 11) {g S : Int → Int} :
    ∃ s' g' S', zf_M_seenFrom (24 * y + x) mc m mk g mh mt C S = some (s', g', S') ∧ yv_is L tS t h u cl sc sr co ro br x y s' := by
  obtain ⟨s', g', S', e1, e2⟩ := ym_seenFrom_l R k x1 x2 y1 y2 24 0 0 g S zi_fu rfl (by decide) z24_0 (fun j => by rw [zb_0, decide_eq_false (by omega), Bool.false_and])
  refine ⟨s', g', S', ?_, e2⟩
  unfold zf_M_seenFrom
  rw [show zf_M_seenFrom_l0 (24 * y + x) mc m mk mh mt C zi_fu 0 0 g S = _ from e1, zl_b]
theorem yv_ca0 {ho : Int} : yv_ca L sP h u co ro br 0 ho := fun j _ hb => by rw [zb_0] at hb; cases hb
end YVL
end
section
/-! Lines between two stars, on both sides. -/
def yv_lj (h u i b r c k b2 r2 c2 x y d : Int) : Int → Int := fun j => if j = 0 then h else if j = 1 then u else if j = 2 then i else if j = 3 then b else if j = 4 then r else if j = 5 then c else if j = 6 then k else if j = 7 then b2 else if j = 8 then r2 else if j = 9 then c2 else if j = 10 then x else if j = 11 then y else if j = 12 then d else 0
def yv_bj (h u x y : Int) (g : Int → Int) : Prop := g 0 = h ∧ g 1 = u ∧ g 10 = x ∧ g 11 = y
theorem yv_lj_of {h u i b r c k b2 r2 c2 x y d : Int} {g : Int → Int} (hg : yv_bj h u x y g) (e2 : g 2 = i) (e3 : g 3 = b) (e4 : g 4 = r) (e5 : g 5 = c) (e6 : g 6 = k) (e7 : g 7 = b2) (e8 : g 8 = r2) (e9 : g 9 = c2) (e12 : g 12 = d) : ∀ j, 0 ≤ j → j < 13 → g j = yv_lj h u i b r c k b2 r2 c2 x y d j := by
  obtain ⟨g0, g1, g10, g11⟩ := hg
  exact yv_13 g0 g1 e2 e3 e4 e5 e6 e7 e8 e9 g10 g11 e12
/-- whether a law draws a line between two -/
def yv_dr (L : zLW) (h u : Int) (co ro br : Int → Int) (x y a b : Int) : Bool := yl_any L 106 (yv_lj h u a (br a) (ro a) (yv_st h co a) b (br b) (ro b) (yv_st h co b) x y (yg_cb (co a) (co b) + yg_ab (ro a - ro b)))
def yv_cp (L : zLW) (lP h u : Int) (co ro br pa ph : Int → Int) : Prop := ∀ a b : Nat, a < 24 → b < 24 → zb (pa a) b = true → lP = 0 ∧ zb (ph a) b = yv_dr L h u co ro br 0 0 a b
theorem ze_setOther {i h : Int} {g br ro co : Int → Int} (i1 : 0 ≤ i) (i2 : i < 24) (c1 : 0 ≤ co i) (c2 : co i ≤ 23) (h1 : 0 ≤ h) (h2 : h ≤ 23) : zf_Law_setOther i h g br ro co = some (zv_up (zv_up (zv_up (zv_up g 6 i) 7 (br i)) 8 (ro i)) 9 (yv_st h co i)) := by
  unfold zf_Law_setOther
  rw [zl_ci i1 (by omega), ze_Sky_standing i1 i2 c1 c2 h1 h2, zl_b]
  rfl
section YVD
variable {L : zLW} {K V kd fr hf to C mk mf mh mt : Int → Int} {nc tS tL sP lP mc : Int} {t h u cl sc sr ch x y a b : Int} {co ro br : Int → Int}
theorem yv_dr0 (R : yl_R L K V nc tS tL sP lP kd fr hf to mc C mk mf mh mt) (hs : lP = 0) {x2 y2 : Int} : yv_dr L h u co ro br x y a b = yv_dr L h u co ro br x2 y2 a b :=
  yl_any_j R hs fun j j0 j1 e1 e2 => by
    unfold yv_lj
    rw [if_neg e1, if_neg e1, if_neg e2, if_neg e2]
theorem yx_isDrawn (R : yl_R L K V nc tS tL sP lP kd fr hf to mc C mk mf mh mt) {f4 : Int} {pa ph g S : Int → Int} (h1 : 0 ≤ h) (h2 : h ≤ 23) (a1 : 0 ≤ a) (a2 : a < 24) (b1 : 0 ≤ b) (b2 : b < 24) (rg : ∀ i, 0 ≤ i → i < 24 → (0 ≤ co i ∧ co i ≤ 23) ∧ (0 ≤ ro i ∧ ro i ≤ 11)) (hg : yv_bj h u x y g) (hc : yv_cp L lP h u co ro br pa ph) :
    ∃ f' pa' ph' g' S', zf_View_isDrawn a b h nc f4 lP pa ph g br ro co kd hf to K S V = some ((if yv_dr L h u co ro br x y a b = true then 1 else 0), f', pa', ph', g', S') ∧ yv_bj h u x y g' ∧ yv_cp L lP h u co ro br pa' ph' := by
  obtain ⟨⟨ca1, ca2⟩, ⟨ra1, ra2⟩⟩ := rg a a1 a2
  obtain ⟨⟨cb1, cb2⟩, ⟨rb1, rb2⟩⟩ := rg b b1 b2
  obtain ⟨q1, q2, q3⟩ := ze_colsBetween ca1 ca2 cb1 cb2
  have hab := yg_ab_in (a := ro a - ro b)
  unfold zf_View_isDrawn
  rw [zl_ci a1 (by omega)]
  have ea : ((a.toNat : Nat) : Int) = a := by omega
  have eb : ((b.toNat : Nat) : Int) = b := by omega
  by_cases n5 : zb (pa a) b.toNat = true
  · rw [zb_bit1 b1 (by omega) n5, if_neg (show ¬ (1 : Int) = 0 by decide)]
    obtain ⟨s0, q⟩ := hc a.toNat b.toNat (by omega) (by omega) (by rw [ea]; exact n5)
    rw [ea, eb] at q
    rw [yv_dr0 R s0 (x2 := 0) (y2 := 0), ← q]
    by_cases n6 : zb (ph a) b.toNat = true
    · rw [zb_bit1 b1 (by omega) n6, if_neg (show ¬ (1 : Int) = 0 by decide), if_pos n6]
      exact ⟨_, _, _, _, _, rfl, hg, hc⟩
    · rw [zb_bit0 b1 (by omega) n6, if_pos rfl, if_neg n6]
      exact ⟨_, _, _, _, _, rfl, hg, hc⟩
  rw [zb_bit0 b1 (by omega) n5, if_pos rfl, ze_setStar a1 a2 ca1 ca2 h1 h2, zl_b, ze_setOther b1 b2 cb1 cb2 h1 h2, zl_b, zl_ci b1 (by omega), q1, zl_b, zi_w_id (x := ro a - ro b) (by omega) (by omega), ze_Math_ab2 (by omega) (by omega), zl_b, zi_w_id (x := yg_cb (co a) (co b) + yg_ab (ro a - ro b)) (by omega) (by omega)]
  generalize hlt : zv_up (zv_up (zv_up (zv_up (zv_up (zv_up (zv_up (zv_up (zv_up g 2 a) 3 (br a)) 4 (ro a)) 5 (yv_st h co a)) 6 b) 7 (br b)) 8 (ro b)) 9 (yv_st h co b)) 12 (yg_cb (co a) (co b) + yg_ab (ro a - ro b)) = lt
  have hbj : yv_bj h u x y lt := by rw [← hlt]; exact hg
  have hel : yl_any L 106 lt = yv_dr L h u co ro br x y a b := yl_any_c R (yv_lj_of hbj (by rw [← hlt]; rfl) (by rw [← hlt]; rfl) (by rw [← hlt]; rfl) (by rw [← hlt]; rfl) (by rw [← hlt]; rfl) (by rw [← hlt]; rfl) (by rw [← hlt]; rfl) (by rw [← hlt]; rfl) (by rw [← hlt]; rfl))
  obtain ⟨a', S', e1⟩ := yl_anyX (lt := lt) R (k := 106) (f1 := f4) (S := S)
  rw [e1, zl_b, hel]
  have hnot : zb (zi_and (ph a) (zi_xor (zi_shl 1 b) (-1))) b.toNat = false := by
    rw [zb_and, zb_not (by omega), zb_shl b1 (by omega), decide_eq_true rfl, Bool.not_true, Bool.and_false]
  have hset : zb (zi_or (ph a) (zi_shl 1 b)) b.toNat = true := by
    rw [zb_or, zb_shl b1 (by omega), decide_eq_true rfl, Bool.or_true]
  have upd : ∀ v, (∀ j : Nat, j < 24 → j ≠ b.toNat → zb v j = zb (ph a) j) → (zb v b.toNat = yv_dr L h u co ro br x y a b) → (lP = 0 → yv_cp L lP h u co ro br (zv_up pa a (zi_or (pa a) (zi_shl 1 b))) (zv_up ph a v)) ∧ (lP ≠ 0 → yv_cp L lP h u co ro br pa (zv_up ph a v)) := by
    intro v q1 q2
    refine ⟨fun s0 i j hi hj hb => ⟨s0, ?_⟩, fun s0 i j hi hj hb => absurd (hc i j hi hj hb).1 s0⟩
    by_cases ei : (i : Int) = a
    · rw [ei] at hb ⊢
      rw [zv_up_s] at hb ⊢
      by_cases ej : j = b.toNat
      · subst ej
        rw [q2, eb]
        exact yv_dr0 R s0
      · rw [zb_or, zb_shl b1 (by omega), decide_eq_false ej, Bool.or_false] at hb
        rw [q1 j hj ej, ← ei]
        rw [← ei] at hb
        exact (hc i j hi hj hb).2
    · rw [zv_up_n ei] at hb ⊢
      exact (hc i j hi hj hb).2
  have oth1 : ∀ j : Nat, j < 24 → j ≠ b.toNat → zb (zi_or (ph a) (zi_shl 1 b)) j = zb (ph a) j := fun j hj ej => by
    rw [zb_or, zb_shl b1 (by omega), decide_eq_false ej, Bool.or_false]
  have oth0 : ∀ j : Nat, j < 24 → j ≠ b.toNat → zb (zi_and (ph a) (zi_xor (zi_shl 1 b) (-1))) j = zb (ph a) j := fun j hj ej => by
    rw [zb_and, zb_not (by omega), zb_shl b1 (by omega), decide_eq_false ej, Bool.not_false, Bool.and_true]
  by_cases n6 : yv_dr L h u co ro br x y a b = true
  · rw [if_pos n6, if_neg (show ¬ (1 : Int) = 0 by decide), zv_up_s, zb_bit1 b1 (by omega) hset, if_neg (show ¬ (1 : Int) = 0 by decide), if_neg (show ¬ (1 : Int) = 0 by decide)]
    obtain ⟨u1, u2⟩ := upd _ oth1 (by rw [hset, n6])
    by_cases n7 : lP = 0
    · rw [if_pos n7]
      exact ⟨_, _, _, _, _, rfl, hbj, u1 n7⟩
    · rw [if_neg n7]
      exact ⟨_, _, _, _, _, rfl, hbj, u2 n7⟩
  · rw [if_neg n6, if_pos rfl, zv_up_s, zb_bit0 b1 (by omega) (by rw [hnot]; decide), if_pos rfl, if_pos rfl]
    obtain ⟨u1, u2⟩ := upd _ oth0 (by rw [hnot]; exact (Bool.eq_false_iff.mpr n6).symm)
    by_cases n7 : lP = 0
    · rw [if_pos n7]
      exact ⟨_, _, _, _, _, rfl, hbj, u1 n7⟩
    · rw [if_neg n7]
      exact ⟨_, _, _, _, _, rfl, hbj, u2 n7⟩
theorem yg_turn {a b h : Int} (a1 : 0 ≤ a) (a2 : a ≤ 23) (b1 : 0 ≤ b) (b2 : b ≤ 23) (h1 : 0 ≤ h) (h2 : h ≤ 23) : yg_cb ((b + h) % 24) ((a + h) % 24) = yg_cb a b := by
  unfold yg_cb yg_ab
  (repeat' split) <;> omega
theorem ym_isDrawn (R : yl_R L K V nc tS tL sP lP kd fr hf to mc C mk mf mh mt) {wc wr m g S : Int → Int} (k : yk_sky t h u cl sc sr ch co ro br wc wr m) (a1 : 0 ≤ a) (a2 : a < 24) (b1 : 0 ≤ b) (b2 : b < 24) (hta : zb t a.toNat = true) (htb : zb t b.toNat = true) (x1 : 0 ≤ x) (x2 : x ≤ 23) (y1 : 0 ≤ y) (y2 : y ≤ 11) :
    ∃ g' S', zf_M_isDrawn (24 * y + x) a b mc g m mk mh mt C S = some ((if yv_dr L h u co ro br x y a b = true then 1 else 0), g', S') := by
  obtain ⟨⟨ht, k126⟩, ⟨⟨h1, h2⟩, k128⟩, k129, -, -, -, -, ki⟩ := k
  obtain ⟨⟨⟨ca1, ca2⟩, ⟨ra1, ra2⟩, -⟩, -, ea⟩ := ki a a1 a2
  obtain ⟨⟨⟨cb1, cb2⟩, ⟨rb1, rb2⟩, -⟩, -, eb⟩ := ki b b1 b2
  obtain ⟨ea1, ea2, ea3, -, -⟩ := ea hta
  obtain ⟨eb1, eb2, eb3, -, -⟩ := eb htb
  have ex : zi_rem (24 * y + x) 24 = x := by rw [zi_rem_eq (by omega) (by omega) (by decide) (by decide)]; omega
  have ey : zi_div (24 * y + x) 24 = y := by rw [zi_div_eq (by omega) (by omega) (by decide) (by decide)]; omega
  have esa : (m a + m 128) % 24 = yv_st h co a := by rw [ea1, k128]; rfl
  have esb : (m b + m 128) % 24 = yv_st h co b := by rw [eb1, k128]; rfl
  have hsa := yv_st_in (h := h) (co := co) (i := a)
  have hsb := yv_st_in (h := h) (co := co) (i := b)
  obtain ⟨g2, eg, w0, w1, w2, w3, w4, w5, w6⟩ := ze_M_feelsStar (g := g) (m := m) a1 a2 (by omega) (by omega) (by omega) (by omega)
  unfold zf_M_isDrawn
  rw [eg, zl_b, zi_w_id (x := 48 + b) (by omega) (by omega), zi_w_id (x := 24 + b) (by omega) (by omega), zi_w_id (x := 24 + a) (by omega) (by omega), zl_ci (by omega) (by omega), zl_ci (by omega) (by omega), ze_M_standsAt b1 b2 (by omega) (by omega) (by omega) (by omega), ze_M_standsAt a1 a2 (by omega) (by omega) (by omega) (by omega), zl_b, zl_b, zl_ci (by omega) (by omega), zl_b, esa, esb, ea2, eb2, ex, ey, ze_way hsa.1 hsa.2 hsb.1 hsb.2 ra1 ra2 rb1 rb2, zl_b]
  generalize hlt : zv_up (zv_up (zv_up (zv_up (zv_up (zv_up (zv_up g2 6 b) 7 (m (48 + b))) 8 (ro b)) 9 (yv_st h co b)) 10 x) 11 y) 12 (yg_cb (yv_st h co b) (yv_st h co a) + yg_ab (ro a - ro b)) = lt
  have hbj : yv_bj h u x y lt := by
    rw [← hlt]
    exact ⟨w0.trans k128, w1.trans k129, rfl, rfl⟩
  have hel : yl_any L 106 lt = yv_dr L h u co ro br x y a b := by
    refine yl_any_c R (yv_lj_of hbj ?_ ?_ ?_ ?_ ?_ ?_ ?_ ?_ ?_)
    · rw [← hlt]; exact w2
    · rw [← hlt]; exact w3.trans ea3
    · rw [← hlt]; exact w4.trans ea2
    · rw [← hlt]; exact w5.trans esa
    · rw [← hlt]; rfl
    · rw [← hlt]; exact eb3
    · rw [← hlt]; rfl
    · rw [← hlt]; rfl
    · rw [← hlt]
      show yg_cb (yv_st h co b) (yv_st h co a) + yg_ab (ro a - ro b) = yg_cb (co a) (co b) + yg_ab (ro a - ro b)
      unfold yv_st
      rw [yg_turn ca1 ca2 cb1 cb2 h1 h2]
  obtain ⟨S', e1⟩ := yl_anyM (lt := lt) R (k := 106) (S := S)
  rw [e1, zl_b, hel]
  by_cases n6 : yv_dr L h u co ro br x y a b = true
  · rw [if_pos n6]
    exact ⟨_, _, rfl⟩
  · rw [if_neg n6]
    exact ⟨_, _, rfl⟩
end YVD
end
section
/-! All lines from a place, on both sides the same. -/
/-- whether there is a line between two, in a set of the seen, by a law -/
def yv_lk (s : Int) (D : Nat → Nat → Bool) (i j : Nat) : Bool := (decide (i ≠ j) && (zb s i && zb s j)) && D (min i j) (max i j)
def yv_pr (a b p q : Nat) : Bool := decide (p < a ∨ (p = a ∧ q < b))
def yv_jn (s : Int) (D : Nat → Nat → Bool) (G : Int → Int) (a b : Nat) : Prop := ∀ i : Nat, i < 24 → z24 (G i) ∧ ∀ j : Nat, zb (G i) j = (decide (j < 24) && (yv_lk s D i j && yv_pr a b (min i j) (max i j)))
/-- rows of lines -/
def yv_il (s : Int) (D : Nat → Nat → Bool) (G : Int → Int) : Prop := ∀ i : Nat, i < 24 → z24 (G i) ∧ ∀ j : Nat, zb (G i) j = (decide (j < 24) && yv_lk s D i j)
theorem yv_il_eq {s : Int} {D : Nat → Nat → Bool} {G H : Int → Int} (a : yv_il s D G) (b : yv_il s D H) : ∀ i : Int, 0 ≤ i → i < 24 → G i = H i := fun i i0 i1 => by
  obtain ⟨a1, a2⟩ := a i.toNat (by omega)
  obtain ⟨b1, b2⟩ := b i.toNat (by omega)
  rw [show ((i.toNat : Nat) : Int) = i by omega] at a1 a2 b1 b2
  exact z24_ext a1 b1 fun j _ => by rw [a2, b2]
section YVJ
variable {s : Int} {D : Nat → Nat → Bool} {G : Int → Int} {a b : Nat}
theorem yv_pr_s {p q : Nat} (h : ¬ (p = a ∧ q = b)) : yv_pr a (b + 1) p q = yv_pr a b p q := by
  unfold yv_pr
  by_cases e : p < a ∨ (p = a ∧ q < b)
  · rw [decide_eq_true e, decide_eq_true (by omega)]
  · rw [decide_eq_false e, decide_eq_false (by omega)]
theorem yv_jn_yes (h : yv_jn s D G a b) (ab : a < b) (hb : b < 24) (ha : zb s a = true) (hsb : zb s b = true) (hd : D a b = true) : yv_jn s D (zv_up (zv_up G a (zi_or (G a) (zi_shl 1 b))) b (zi_or (zv_up G a (zi_or (G a) (zi_shl 1 b)) b) (zi_shl 1 a))) a (b + 1) := by
  intro i hi
  obtain ⟨h1, h2⟩ := h i hi
  by_cases eb : i = b
  · subst eb
    rw [zv_up_s, zv_up_n (show ((i : Nat) : Int) ≠ (a : Int) by omega)]
    refine ⟨z24_or h1 (z24_shl (by omega) (by omega)), fun j => ?_⟩
    rw [zb_or, zb_shl (by omega) (by omega), h2]
    by_cases ej : j = a
    · subst ej
      rw [show ((j : Nat) : Int).toNat = j by omega, decide_eq_true rfl, Bool.or_true, decide_eq_true (by omega : j < 24)]
      unfold yv_lk yv_pr
      rw [show min i j = j by omega, show max i j = i by omega, hd, ha, hsb, decide_eq_true (by omega : i ≠ j), decide_eq_true (by omega : j < j ∨ (j = j ∧ i < i + 1))]
      rfl
    · rw [decide_eq_false (show ¬ j = ((a : Nat) : Int).toNat by omega), Bool.or_false, yv_pr_s (by omega)]
  · rw [zv_up_n (show ((i : Nat) : Int) ≠ (b : Int) by omega)]
    by_cases ea : i = a
    · subst ea
      rw [zv_up_s]
      refine ⟨z24_or h1 (z24_shl (by omega) (by omega)), fun j => ?_⟩
      rw [zb_or, zb_shl (by omega) (by omega), h2]
      by_cases ej : j = b
      · subst ej
        rw [show ((j : Nat) : Int).toNat = j by omega, decide_eq_true rfl, Bool.or_true, decide_eq_true (by omega : j < 24)]
        unfold yv_lk yv_pr
        rw [show min i j = i by omega, show max i j = j by omega, hd, ha, hsb, decide_eq_true (by omega : i ≠ j), decide_eq_true (by omega : i < i ∨ (i = i ∧ j < j + 1))]
        rfl
      · rw [decide_eq_false (show ¬ j = ((b : Nat) : Int).toNat by omega), Bool.or_false, yv_pr_s (by omega)]
    · rw [zv_up_n (show ((i : Nat) : Int) ≠ (a : Int) by omega)]
      exact ⟨h1, fun j => by rw [h2, yv_pr_s (by omega)]⟩
theorem yv_jn_no (h : yv_jn s D G a b) (ab : a < b) (hn : ¬ (zb s a = true ∧ zb s b = true ∧ D a b = true)) : yv_jn s D G a (b + 1) := by
  intro i hi
  obtain ⟨h1, h2⟩ := h i hi
  refine ⟨h1, fun j => ?_⟩
  rw [h2]
  by_cases e : min i j = a ∧ max i j = b
  · have hk : yv_lk s D i j = false := by
      apply Bool.eq_false_iff.mpr
      intro hk
      unfold yv_lk at hk
      rw [Bool.and_eq_true, Bool.and_eq_true, Bool.and_eq_true, e.1, e.2] at hk
      apply hn
      obtain ⟨⟨k1, k2, k3⟩, k4⟩ := hk
      by_cases hij : i < j
      · have ei : i = a := by omega
        have ej : j = b := by omega
        rw [← ei, ← ej]
        rw [← ei, ← ej] at k4
        exact ⟨k2, k3, k4⟩
      · have ei : i = b := by omega
        have ej : j = a := by omega
        rw [← ei, ← ej]
        rw [← ei, ← ej] at k4
        exact ⟨k3, k2, k4⟩
    rw [hk, Bool.false_and, Bool.false_and]
  · rw [yv_pr_s e]
theorem yv_jn_end (h : yv_jn s D G a b) (hb : 24 ≤ b) : yv_jn s D G (a + 1) (a + 2) := by
  intro i hi
  obtain ⟨h1, h2⟩ := h i hi
  refine ⟨h1, fun j => ?_⟩
  rw [h2]
  by_cases hj : j < 24
  · by_cases e : i = j
    · have hk : yv_lk s D i j = false := by
        unfold yv_lk
        rw [decide_eq_false (fun hh => hh e), Bool.false_and, Bool.false_and]
      rw [hk, Bool.false_and, Bool.false_and]
    · congr 2
      unfold yv_pr
      by_cases q : min i j < a ∨ (min i j = a ∧ max i j < b)
      · rw [decide_eq_true q, decide_eq_true (by omega)]
      · rw [decide_eq_false q, decide_eq_false (by omega)]
  · rw [decide_eq_false hj, Bool.false_and, Bool.false_and]
theorem yv_jn_un (h : yv_jn s D G a b) (ha : ¬ zb s a = true) : yv_jn s D G a 24 := by
  intro i hi
  obtain ⟨h1, h2⟩ := h i hi
  refine ⟨h1, fun j => ?_⟩
  rw [h2]
  by_cases e : min i j = a
  · have hk : yv_lk s D i j = false := by
      apply Bool.eq_false_iff.mpr
      intro hk
      unfold yv_lk at hk
      rw [Bool.and_eq_true, Bool.and_eq_true, Bool.and_eq_true] at hk
      obtain ⟨⟨k1, k2, k3⟩, -⟩ := hk
      apply ha
      by_cases hij : i < j
      · rw [show a = i by omega]; exact k2
      · rw [show a = j by omega]; exact k3
    rw [hk, Bool.false_and, Bool.false_and]
  · congr 2
    unfold yv_pr
    by_cases q : min i j < a
    · rw [decide_eq_true (Or.inl q), decide_eq_true (Or.inl q)]
    · rw [decide_eq_false (by omega), decide_eq_false (by omega)]
theorem yv_jn_il (h : yv_jn s D G a b) (ha : 24 ≤ a) : yv_il s D G := by
  intro i hi
  obtain ⟨h1, h2⟩ := h i hi
  refine ⟨h1, fun j => ?_⟩
  rw [h2]
  by_cases hj : j < 24
  · have : yv_pr a b (min i j) (max i j) = true := decide_eq_true (Or.inl (by omega))
    rw [this, Bool.and_true]
  · rw [decide_eq_false hj, Bool.false_and, Bool.false_and]
theorem yv_jn_0 (h : ∀ i : Nat, i < 24 → G i = 0) : yv_jn s D G 0 1 := by
  intro i hi
  rw [h i hi]
  refine ⟨z24_0, fun j => ?_⟩
  rw [zb_0]
  symm
  by_cases e : i = j
  · have hk : yv_lk s D i j = false := by
      unfold yv_lk
      rw [decide_eq_false (fun hh => hh e), Bool.false_and, Bool.false_and]
    rw [hk, Bool.false_and, Bool.and_false]
  · have : yv_pr 0 1 (min i j) (max i j) = false := decide_eq_false (by omega)
    rw [this, Bool.and_false, Bool.and_false]
end YVJ
def yv_D (L : zLW) (h u : Int) (co ro br : Int → Int) (x y : Int) (a b : Nat) : Bool := yv_dr L h u co ro br x y a b
theorem ze_fill24_l0 {v : Int} : ∀ (d : Nat) (j : Int) (g : Int → Int) (n : Nat), j + d = 24 → 0 ≤ j → d < n → ∃ g2, zf_Arrays_fill_24_l0 v 24 n j g = some g2 ∧ (∀ i, j ≤ i → i < 24 → g2 i = v) ∧ ∀ i, i < j → g2 i = g i := by
  intro d
  induction d with
  | zero =>
    intro j g n e j0 hn
    obtain ⟨n, rfl⟩ : ∃ q, n = q + 1 := ⟨n - 1, by omega⟩
    refine ⟨g, ?_, fun i a b => by omega, fun _ _ => rfl⟩
    show zf_Arrays_fill_24_l0_b v 24 (zf_Arrays_fill_24_l0 v 24 n) j g = _
    unfold zf_Arrays_fill_24_l0_b
    rw [if_neg (by omega)]
  | succ d ih =>
    intro j g n e j0 hn
    obtain ⟨n, rfl⟩ : ∃ q, n = q + 1 := ⟨n - 1, by omega⟩
    show ∃ g2, zf_Arrays_fill_24_l0_b v 24 (zf_Arrays_fill_24_l0 v 24 n) j g = some g2 ∧ _
    unfold zf_Arrays_fill_24_l0_b
    rw [if_pos (by omega), zl_ci j0 (by omega), zi_w_id (x := j + 1) (by omega) (by omega)]
    obtain ⟨g2, e2, a, b⟩ := ih (j + 1) (zv_up g j v) n (by omega) (by omega) (by omega)
    refine ⟨g2, e2, fun i i1 i2 => ?_, fun i i1 => ?_⟩
    · by_cases ei : i = j
      · subst ei; rw [b i (by omega), zv_up_s]
      · exact a i (by omega) i2
    · rw [b i (by omega), zv_up_n (by omega)]
theorem ze_fill24 {v : Int} {g : Int → Int} : ∃ g2, zf_Arrays_fill_24 v g = some g2 ∧ ∀ i, 0 ≤ i → i < 24 → g2 i = v := by
  obtain ⟨g2, e, a, -⟩ := ze_fill24_l0 (v := v) 24 0 g zi_fu rfl (by decide) (by decide)
  refine ⟨g2, ?_, a⟩
  unfold zf_Arrays_fill_24
  rw [e]; rfl
section YVX
variable {L : zLW} {K V kd fr hf to C mk mf mh mt : Int → Int} {nc tS tL sP lP mc : Int} {t h u cl sc sr ch x y s : Int} {co ro br wc wr m : Int → Int}
theorem yx_draw_l1 (R : yl_R L K V nc tS tL sP lP kd fr hf to mc C mk mf mh mt) (k : yk_sky t h u cl sc sr ch co ro br wc wr m) {a : Nat} (ha : a < 24) : ∀ (d b : Nat) (f : Int) (J g pa ph S : Int → Int) (n : Nat), 24 - b ≤ d → a < b → b ≤ 24 → d < n → yv_jn s (yv_D L h u co ro br x y) J a b → yv_bj h u x y g → yv_cp L lP h u co ro br pa ph →
    ∃ f' J' g' pa' ph' S', zf_View_draw_l1 (a : Int) h s nc lP br ro co kd hf to K V n (b : Int) f J g pa ph S = some (f', J', g', pa', ph', S') ∧ yv_jn s (yv_D L h u co ro br x y) J' a 24 ∧ yv_bj h u x y g' ∧ yv_cp L lP h u co ro br pa' ph' := by
  intro d
  induction d with
  | zero =>
    intro b f J g pa ph S n hd hab hb hn hj hg hc
    obtain ⟨n, rfl⟩ : ∃ q, n = q + 1 := ⟨n - 1, by omega⟩
    refine ⟨f, J, g, pa, ph, S, ?_, ?_, hg, hc⟩
    · show zf_View_draw_l1_b (a : Int) h s nc lP br ro co kd hf to K V (zf_View_draw_l1 (a : Int) h s nc lP br ro co kd hf to K V n) (b : Int) f J g pa ph S = _
      unfold zf_View_draw_l1_b
      rw [if_neg (by omega)]
    · rw [show (24 : Nat) = b by omega]; exact hj
  | succ d ih =>
    intro b f J g pa ph S n hd hab hb hn hj hg hc
    obtain ⟨n, rfl⟩ : ∃ q, n = q + 1 := ⟨n - 1, by omega⟩
    show ∃ f' J' g' pa' ph' S', zf_View_draw_l1_b (a : Int) h s nc lP br ro co kd hf to K V (zf_View_draw_l1 (a : Int) h s nc lP br ro co kd hf to K V n) (b : Int) f J g pa ph S = _ ∧ _
    unfold zf_View_draw_l1_b
    by_cases hb2 : b < 24
    · rw [if_pos (by omega), zi_w_id (x := (b : Int) + 1) (by omega) (by omega)]
      have ea : ((a : Nat) : Int).toNat = a := by omega
      have eb : ((b : Nat) : Int).toNat = b := by omega
      by_cases hsa : zb s a = true
      · rw [zb_bit1 (by omega) (by omega) (by rw [ea]; exact hsa), if_neg (show ¬ (1 : Int) = 0 by decide)]
        by_cases hsb : zb s b = true
        · rw [zb_bit1 (by omega) (by omega) (by rw [eb]; exact hsb), if_neg (show ¬ (1 : Int) = 0 by decide)]
          obtain ⟨-, ⟨⟨h1, h2⟩, -⟩, -, -, -, -, -, ki⟩ := id k
          obtain ⟨f', pa', ph', g', S', e1, hg', hc'⟩ := yx_isDrawn (f4 := f) (S := S) R h1 h2 (show 0 ≤ (a : Int) by omega) (by omega) (show 0 ≤ (b : Int) by omega) (by omega) (fun i i0 i1 => ⟨(ki i i0 i1).1.1, (ki i i0 i1).1.2.1⟩) hg hc
          rw [e1, zl_b]
          by_cases hd2 : yv_dr L h u co ro br x y a b = true
          · rw [if_pos hd2, if_neg (show ¬ (1 : Int) = 0 by decide), zl_ci (by omega) (by omega), zl_ci (by omega) (by omega)]
            exact ih (b + 1) f' _ g' pa' ph' S' n (by omega) (by omega) (by omega) (by omega) (yv_jn_yes hj hab hb2 hsa hsb hd2) hg' hc'
          · rw [if_neg hd2, if_pos rfl]
            exact ih (b + 1) f' J g' pa' ph' S' n (by omega) (by omega) (by omega) (by omega) (yv_jn_no hj hab (fun q => hd2 q.2.2)) hg' hc'
        · rw [zb_bit0 (by omega) (by omega) (by rw [eb]; exact hsb), if_pos rfl]
          exact ih (b + 1) f J g pa ph S n (by omega) (by omega) (by omega) (by omega) (yv_jn_no hj hab (fun q => hsb q.2.1)) hg hc
      · rw [zb_bit0 (by omega) (by omega) (by rw [ea]; exact hsa), if_pos rfl]
        exact ⟨f, J, g, pa, ph, S, rfl, yv_jn_un hj hsa, hg, hc⟩
    · rw [if_neg (by omega)]
      refine ⟨f, J, g, pa, ph, S, rfl, ?_, hg, hc⟩
      rw [show (24 : Nat) = b by omega]; exact hj
theorem yx_draw_l0 (R : yl_R L K V nc tS tL sP lP kd fr hf to mc C mk mf mh mt) (k : yk_sky t h u cl sc sr ch co ro br wc wr m) : ∀ (d a : Nat) (f : Int) (J g pa ph S : Int → Int) (n : Nat), a + d = 24 → d < n → yv_jn s (yv_D L h u co ro br x y) J a (a + 1) → yv_bj h u x y g → yv_cp L lP h u co ro br pa ph →
    ∃ f' J' g' pa' ph' S', zf_View_draw_l0 h s nc lP br ro co kd hf to K V n (a : Int) f J g pa ph S = some (f', J', g', pa', ph', S') ∧ yv_il s (yv_D L h u co ro br x y) J' ∧ yv_cp L lP h u co ro br pa' ph' := by
  intro d
  induction d with
  | zero =>
    intro a f J g pa ph S n e hn hj hg hc
    obtain ⟨n, rfl⟩ : ∃ q, n = q + 1 := ⟨n - 1, by omega⟩
    refine ⟨f, J, g, pa, ph, S, ?_, yv_jn_il hj (by omega), hc⟩
    show zf_View_draw_l0_b h s nc lP br ro co kd hf to K V (zf_View_draw_l0 h s nc lP br ro co kd hf to K V n) (a : Int) f J g pa ph S = _
    unfold zf_View_draw_l0_b
    rw [if_neg (by omega)]
  | succ d ih =>
    intro a f J g pa ph S n e hn hj hg hc
    obtain ⟨n, rfl⟩ : ∃ q, n = q + 1 := ⟨n - 1, by omega⟩
    obtain ⟨f', J', g', pa', ph', S', e1, hj', hg', hc'⟩ := yx_draw_l1 (s := s) (x := x) (y := y) R k (show a < 24 by omega) 24 (a + 1) f J g pa ph S zi_fu (by omega) (by omega) (by omega) (by decide) hj hg hc
    show ∃ f' J' g' pa' ph' S', zf_View_draw_l0_b h s nc lP br ro co kd hf to K V (zf_View_draw_l0 h s nc lP br ro co kd hf to K V n) (a : Int) f J g pa ph S = _ ∧ _
    unfold zf_View_draw_l0_b
    rw [if_pos (by omega), zi_w_id (x := (a : Int) + 1) (by omega) (by omega)]
    show ∃ f' J' g' pa' ph' S', ((zf_View_draw_l1 (a : Int) h s nc lP br ro co kd hf to K V zi_fu ((a + 1 : Nat) : Int) f J g pa ph S).bind _) = _ ∧ _
    rw [e1, zl_b]
    exact ih (a + 1) f' J' g' pa' ph' S' n (by omega) (by omega) (yv_jn_end hj' (by decide)) hg' hc'
theorem yv_nol (R : yl_R L K V nc tS tL sP lP kd fr hf to mc C mk mf mh mt) (h0 : tL = 0) {a b : Nat} : yv_D L h u co ro br x y a b = false := by
  obtain ⟨⟨r1, r2, r3, r4⟩, r5, st, r6, r7, ⟨⟨-, t2⟩, -⟩, r9⟩ := R
  rcases t2 with ⟨q, _⟩ | ⟨_, q⟩
  · omega
  · exact yl_any_0 q (by omega)
theorem yx_draw (R : yl_R L K V nc tS tL sP lP kd fr hf to mc C mk mf mh mt) (k : yk_sky t h u cl sc sr ch co ro br wc wr m) {f : Int} {J g pa ph S : Int → Int} (hc : yv_cp L lP h u co ro br pa ph) :
    ∃ f' J' g' pa' ph' S', zf_View_draw tL x y h u s nc f lP J g pa ph br ro co kd hf to K S V = some (x, y, f', J', g', pa', ph', S') ∧ yv_il s (yv_D L h u co ro br x y) J' ∧ yv_cp L lP h u co ro br pa' ph' := by
  obtain ⟨J0, e0, hJ0⟩ := ze_fill24 (v := 0) (g := J)
  unfold zf_View_draw
  rw [e0, zl_b]
  by_cases h0 : tL = 0
  · rw [if_pos h0]
    refine ⟨f, J0, g, pa, ph, S, rfl, fun i hi => ?_, hc⟩
    rw [hJ0 i (by omega) (by omega)]
    refine ⟨z24_0, fun j => ?_⟩
    unfold yv_lk
    rw [zb_0, yv_nol R h0, Bool.and_false, Bool.and_false]
  · rw [if_neg h0]
    obtain ⟨g1, eg, hg⟩ := ze_goTo (x := x) (y := y) (f0 := x) (f1 := y) (h := h) (u := u) (g := g)
    rw [eg, zl_b]
    obtain ⟨f', J', g', pa', ph', S', e1, e2, e3⟩ := yx_draw_l0 (s := s) R k 24 0 f J0 g1 pa ph S zi_fu rfl (by decide) (yv_jn_0 fun i hi => hJ0 i (by omega) (by omega)) ⟨hg.1, hg.2.1, hg.2.2.2.2.2.2.1, hg.2.2.2.2.2.2.2⟩ hc
    refine ⟨f', J', g', pa', ph', S', ?_, e2, e3⟩
    show ((zf_View_draw_l0 h s nc lP br ro co kd hf to K V zi_fu 0 f J0 g1 pa ph S).bind _) = _
    rw [show zf_View_draw_l0 h s nc lP br ro co kd hf to K V zi_fu 0 f J0 g1 pa ph S = _ from e1, zl_b]
theorem ym_looks_l0 : ∀ (d : Nat) (j : Int) (g : Int → Int) (n : Nat), j + d = 24 → 0 ≤ j → d < n → ∃ g2, zf_M_looks_l0 n j g = some g2 ∧ (∀ i, j ≤ i → i < 24 → g2 i = 0) ∧ ∀ i, i < j → g2 i = g i := by
  intro d
  induction d with
  | zero =>
    intro j g n e j0 hn
    obtain ⟨n, rfl⟩ : ∃ q, n = q + 1 := ⟨n - 1, by omega⟩
    refine ⟨g, ?_, fun i a b => by omega, fun _ _ => rfl⟩
    show zf_M_looks_l0_b (zf_M_looks_l0 n) j g = _
    unfold zf_M_looks_l0_b
    rw [if_neg (by omega)]
  | succ d ih =>
    intro j g n e j0 hn
    obtain ⟨n, rfl⟩ : ∃ q, n = q + 1 := ⟨n - 1, by omega⟩
    show ∃ g2, zf_M_looks_l0_b (zf_M_looks_l0 n) j g = some g2 ∧ _
    unfold zf_M_looks_l0_b
    rw [if_pos (by omega), zl_ci j0 (by omega), zi_w_id (x := j + 1) (by omega) (by omega)]
    obtain ⟨g2, e2, a, b⟩ := ih (j + 1) (zv_up g j 0) n (by omega) (by omega) (by omega)
    refine ⟨g2, e2, fun i i1 i2 => ?_, fun i i1 => ?_⟩
    · by_cases ei : i = j
      · subst ei; rw [b i (by omega), zv_up_s]
      · exact a i (by omega) i2
    · rw [b i (by omega), zv_up_n (by omega)]
theorem ym_looks_l2 (R : yl_R L K V nc tS tL sP lP kd fr hf to mc C mk mf mh mt) (k : yk_sky t h u cl sc sr ch co ro br wc wr m) (hs : z24 s) (hst : ∀ j : Nat, zb s j = true → zb t j = true) (x1 : 0 ≤ x) (x2 : x ≤ 23) (y1 : 0 ≤ y) (y2 : y ≤ 11) {a : Nat} (ha : a < 24) : ∀ (d b : Nat) (g S J : Int → Int) (n : Nat), 24 - b ≤ d → a < b → b ≤ 24 → d < n → yv_jn s (yv_D L h u co ro br x y) J a b →
    ∃ g' S' J', zf_M_looks_l2 (24 * y + x) (a : Int) mc s m mk mh mt C n (b : Int) g S J = some (g', S', J') ∧ yv_jn s (yv_D L h u co ro br x y) J' a 24 := by
  intro d
  induction d with
  | zero =>
    intro b g S J n hd hab hb hn hj
    obtain ⟨n, rfl⟩ : ∃ q, n = q + 1 := ⟨n - 1, by omega⟩
    refine ⟨g, S, J, ?_, ?_⟩
    · show zf_M_looks_l2_b (24 * y + x) (a : Int) mc s m mk mh mt C (zf_M_looks_l2 (24 * y + x) (a : Int) mc s m mk mh mt C n) (b : Int) g S J = _
      unfold zf_M_looks_l2_b
      rw [if_neg (by omega)]
    · rw [show (24 : Nat) = b by omega]; exact hj
  | succ d ih =>
    intro b g S J n hd hab hb hn hj
    obtain ⟨n, rfl⟩ : ∃ q, n = q + 1 := ⟨n - 1, by omega⟩
    have sin : 0 ≤ s ∧ s ≤ 2147483647 := ⟨hs.1, by have := hs.2; omega⟩
    show ∃ g' S' J', zf_M_looks_l2_b (24 * y + x) (a : Int) mc s m mk mh mt C (zf_M_looks_l2 (24 * y + x) (a : Int) mc s m mk mh mt C n) (b : Int) g S J = _ ∧ _
    unfold zf_M_looks_l2_b
    by_cases hb2 : b < 24
    · have ea : ((a : Nat) : Int).toNat = a := by omega
      have eb : ((b : Nat) : Int).toNat = b := by omega
      rw [if_pos (by omega), zi_w_id (x := (b : Int) + 1) (by omega) (by omega), ze_M_has sin.1 sin.2 (show 0 ≤ (a : Int) by omega) (by omega), zl_b, zb_tb2 sin.1 sin.2, ea]
      by_cases hsa : zb s a = true
      · rw [if_pos hsa, if_neg (show ¬ (1 : Int) = 0 by decide), ze_M_has sin.1 sin.2 (show 0 ≤ (b : Int) by omega) (by omega), zl_b, zb_tb2 sin.1 sin.2, eb]
        by_cases hsb : zb s b = true
        · rw [if_pos hsb, if_neg (show ¬ (1 : Int) = 0 by decide)]
          obtain ⟨g', S', e1⟩ := ym_isDrawn (g := g) (S := S) R k (show 0 ≤ (a : Int) by omega) (by omega) (show 0 ≤ (b : Int) by omega) (by omega) (by rw [ea]; exact hst a hsa) (by rw [eb]; exact hst b hsb) x1 x2 y1 y2
          rw [e1, zl_b]
          by_cases hd2 : yv_dr L h u co ro br x y a b = true
          · rw [if_pos hd2, if_neg (show ¬ (1 : Int) = 0 by decide), zl_ci (by omega) (by omega), zl_ci (by omega) (by omega)]
            exact ih (b + 1) g' S' _ n (by omega) (by omega) (by omega) (by omega) (yv_jn_yes hj hab hb2 hsa hsb hd2)
          · rw [if_neg hd2, if_pos rfl]
            exact ih (b + 1) g' S' J n (by omega) (by omega) (by omega) (by omega) (yv_jn_no hj hab (fun q => hd2 q.2.2))
        · rw [if_neg hsb, if_pos rfl]
          exact ih (b + 1) g S J n (by omega) (by omega) (by omega) (by omega) (yv_jn_no hj hab (fun q => hsb q.2.1))
      · rw [if_neg hsa, if_pos rfl]
        exact ⟨g, S, J, rfl, yv_jn_un hj hsa⟩
    · rw [if_neg (by omega)]
      refine ⟨g, S, J, rfl, ?_⟩
      rw [show (24 : Nat) = b by omega]; exact hj
theorem ym_looks_l1 (R : yl_R L K V nc tS tL sP lP kd fr hf to mc C mk mf mh mt) (k : yk_sky t h u cl sc sr ch co ro br wc wr m) (hs : z24 s) (hst : ∀ j : Nat, zb s j = true → zb t j = true) (x1 : 0 ≤ x) (x2 : x ≤ 23) (y1 : 0 ≤ y) (y2 : y ≤ 11) : ∀ (d a : Nat) (g S J : Int → Int) (n : Nat), a + d = 24 → d < n → yv_jn s (yv_D L h u co ro br x y) J a (a + 1) →
    ∃ g' S' J', zf_M_looks_l1 (24 * y + x) mc s m mk mh mt C n (a : Int) g S J = some (g', S', J') ∧ yv_il s (yv_D L h u co ro br x y) J' := by
  intro d
  induction d with
  | zero =>
    intro a g S J n e hn hj
    obtain ⟨n, rfl⟩ : ∃ q, n = q + 1 := ⟨n - 1, by omega⟩
    refine ⟨g, S, J, ?_, yv_jn_il hj (by omega)⟩
    show zf_M_looks_l1_b (24 * y + x) mc s m mk mh mt C (zf_M_looks_l1 (24 * y + x) mc s m mk mh mt C n) (a : Int) g S J = _
    unfold zf_M_looks_l1_b
    rw [if_neg (by omega)]
  | succ d ih =>
    intro a g S J n e hn hj
    obtain ⟨n, rfl⟩ : ∃ q, n = q + 1 := ⟨n - 1, by omega⟩
    obtain ⟨g', S', J', e1, hj'⟩ := ym_looks_l2 R k hs hst x1 x2 y1 y2 (show a < 24 by omega) 24 (a + 1) g S J zi_fu (by omega) (by omega) (by omega) (by decide) hj
    show ∃ g' S' J', zf_M_looks_l1_b (24 * y + x) mc s m mk mh mt C (zf_M_looks_l1 (24 * y + x) mc s m mk mh mt C n) (a : Int) g S J = _ ∧ _
    unfold zf_M_looks_l1_b
    rw [if_pos (by omega), zi_w_id (x := (a : Int) + 1) (by omega) (by omega)]
    show ∃ g' S' J', ((zf_M_looks_l2 (24 * y + x) (a : Int) mc s m mk mh mt C zi_fu ((a + 1 : Nat) : Int) g S J).bind _) = _ ∧ _
    rw [e1, zl_b]
    exact ih (a + 1) g' S' J' n (by omega) (by omega) (yv_jn_end hj' (by decide))
theorem ym_looks (R : yl_R L K V nc tS tL sP lP kd fr hf to mc C mk mf mh mt) (k : yk_sky t h u cl sc sr ch co ro br wc wr m) (x1 : 0 ≤ x) (x2 : x ≤ 23) (y1 : 0 ≤ y) (y2 : y ≤ 11) {f1 : Int} {g S J : Int → Int} :
    ∃ s' g' S' J', zf_M_looks (24 * y + x) mc f1 m mk g mh mt C S J = some (s', g', S', J') ∧ yv_is L tS t h u cl sc sr co ro br x y s' ∧ yv_il s' (yv_D L h u co ro br x y) J' := by
  obtain ⟨s', g', S', e1, e2⟩ := ym_seenFrom (g := g) (S := S) R k x1 x2 y1 y2
  obtain ⟨J0, e0, hJ0, -⟩ := ym_looks_l0 24 0 J zi_fu rfl (by decide) (by decide)
  obtain ⟨g2, S2, J2, e3, e4⟩ := ym_looks_l1 R k e2.1 (fun j hj => by
    rw [e2.2 j, Bool.and_eq_true, Bool.and_eq_true] at hj
    exact hj.2.1) x1 x2 y1 y2 24 0 g' S' J0 zi_fu rfl (by decide) (yv_jn_0 fun i hi => hJ0 i (by omega) (by omega))
  refine ⟨s', g2, S2, J2, ?_, e2, e4⟩
  unfold zf_M_looks
  rw [e1, zl_b, e0, zl_b, show zf_M_looks_l1 (24 * y + x) mc s' m mk mh mt C zi_fu 0 g' S' J0 = _ from e3, zl_b]
end YVX
end
section
/-! Hours and nights that pass, clouds that are drawn: alike on both sides. -/
def yg_cl (v : Int) : Int := if v < 0 then 0 else if 11 < v then 11 else v
theorem ze_floorMod {a : Int} (h1 : -40 ≤ a) (h2 : a < 88) : zf_Math_floorMod a 24 = some (a % 24) := by
  have h : ∀ k : Nat, k < 128 → zf_Math_floorMod ((k : Int) - 40) 24 = some (((k : Int) - 40) % 24) := by decide +kernel
  have := h (a + 40).toNat (by omega)
  rwa [show (((a + 40).toNat : Nat) : Int) - 40 = a by omega] at this
theorem ze_begin_l0 {wc wr : Int → Int} (hw : ∀ i, 0 ≤ i → i < 24 → (-3 ≤ wc i ∧ wc i ≤ 3) ∧ (-3 ≤ wr i ∧ wr i ≤ 3)) : ∀ (d : Nat) (i : Int) (co ro : Int → Int) (n : Nat), i + d = 24 → 0 ≤ i → d < n → (∀ j, 0 ≤ j → j < 24 → (0 ≤ co j ∧ co j ≤ 23) ∧ (0 ≤ ro j ∧ ro j ≤ 11)) →
    ∃ co' ro', zf_Sky_beginNight_l0 wc wr n i co ro = some (co', ro') ∧ (∀ j, i ≤ j → j < 24 → co' j = (co j + wc j) % 24 ∧ ro' j = yg_cl (ro j + wr j)) ∧ ∀ j, j < i → co' j = co j ∧ ro' j = ro j := by
  intro d
  induction d with
  | zero =>
    intro i co ro n e i0 hn hr
    obtain ⟨n, rfl⟩ : ∃ q, n = q + 1 := ⟨n - 1, by omega⟩
    refine ⟨co, ro, ?_, fun j a b => by omega, fun _ _ => ⟨rfl, rfl⟩⟩
    show zf_Sky_beginNight_l0_b wc wr (zf_Sky_beginNight_l0 wc wr n) i co ro = _
    unfold zf_Sky_beginNight_l0_b
    rw [if_neg (by omega)]
  | succ d ih =>
    intro i co ro n e i0 hn hr
    obtain ⟨n, rfl⟩ : ∃ q, n = q + 1 := ⟨n - 1, by omega⟩
    obtain ⟨⟨c1, c2⟩, ⟨r1, r2⟩⟩ := hr i i0 (by omega)
    obtain ⟨⟨w1, w2⟩, ⟨w3, w4⟩⟩ := hw i i0 (by omega)
    show ∃ co' ro', zf_Sky_beginNight_l0_b wc wr (zf_Sky_beginNight_l0 wc wr n) i co ro = _ ∧ _
    unfold zf_Sky_beginNight_l0_b zf_Sky_columnNextNight zf_Sky_rowNextNight
    rw [if_pos (by omega), zl_ci i0 (by omega), zl_ci i0 (by omega), zi_w_id (x := co i + wc i) (by omega) (by omega), ze_floorMod (by omega) (by omega), zl_b, zl_b, zl_ci i0 (by omega), zi_w_id (x := ro i + wr i) (by omega) (by omega), ze_Math_min, zl_b, ze_Math_max, zl_b, zl_b, zi_w_id (x := i + 1) (by omega) (by omega)]
    have ecl : (if 0 < (if ro i + wr i < 11 then ro i + wr i else 11) then (if ro i + wr i < 11 then ro i + wr i else 11) else 0) = yg_cl (ro i + wr i) := by
      unfold yg_cl
      (repeat' split) <;> omega
    have hcl : 0 ≤ yg_cl (ro i + wr i) ∧ yg_cl (ro i + wr i) ≤ 11 := by
      unfold yg_cl
      (repeat' split) <;> omega
    rw [ecl]
    obtain ⟨co', ro', e1, e2, e3⟩ := ih (i + 1) (zv_up co i ((co i + wc i) % 24)) (zv_up ro i (yg_cl (ro i + wr i))) n (by omega) (by omega) (by omega) (fun j j0 j1 => by
      by_cases ej : j = i
      · subst ej
        rw [zv_up_s, zv_up_s]
        exact ⟨⟨by omega, by omega⟩, hcl⟩
      · rw [zv_up_n ej, zv_up_n ej]
        exact hr j j0 j1)
    refine ⟨co', ro', e1, fun j j0 j1 => ?_, fun j j0 => ?_⟩
    · by_cases ej : j = i
      · subst ej
        obtain ⟨a1, a2⟩ := e3 j (by omega)
        rw [a1, a2, zv_up_s, zv_up_s]
        exact ⟨rfl, rfl⟩
      · have := e2 j (by omega) j1
        rw [zv_up_n ej, zv_up_n ej] at this
        exact this
    · obtain ⟨a1, a2⟩ := e3 j (by omega)
      rw [a1, a2, zv_up_n (by omega), zv_up_n (by omega)]
      exact ⟨rfl, rfl⟩
theorem ze_walks_l0 {t : Int} (ht : z24 t) : ∀ (d : Nat) (i : Int) (m : Int → Int) (n : Nat), i + d = 24 → 0 ≤ i → d < n → m 126 = t → (∀ j, 0 ≤ j → j < 24 → (0 ≤ m j ∧ m j ≤ 23) ∧ (0 ≤ m (24 + j) ∧ m (24 + j) ≤ 11) ∧ (-3 ≤ m (72 + j) ∧ m (72 + j) ≤ 3) ∧ (-3 ≤ m (96 + j) ∧ m (96 + j) ≤ 3)) →
    ∃ m', zf_M_walks_l0 n i m = some m' ∧ (∀ j, 48 ≤ j → m' j = m j) ∧ (∀ j, j < i → 0 ≤ j → m' j = m j ∧ m' (24 + j) = m (24 + j)) ∧ ∀ j, i ≤ j → j < 24 → (zb t j.toNat = true → m' j = (m j + m (72 + j)) % 24 ∧ m' (24 + j) = yg_cl (m (24 + j) + m (96 + j))) ∧ (¬ zb t j.toNat = true → m' j = m j ∧ m' (24 + j) = m (24 + j)) := by
  have tin : 0 ≤ t ∧ t ≤ 2147483647 := ⟨ht.1, by have := ht.2; omega⟩
  intro d
  induction d with
  | zero =>
    intro i m n e i0 hn h126 hr
    obtain ⟨n, rfl⟩ : ∃ q, n = q + 1 := ⟨n - 1, by omega⟩
    refine ⟨m, ?_, fun _ _ => rfl, fun _ _ _ => ⟨rfl, rfl⟩, fun j a b => by omega⟩
    show zf_M_walks_l0_b (zf_M_walks_l0 n) i m = _
    unfold zf_M_walks_l0_b
    rw [if_neg (by omega)]
  | succ d ih =>
    intro i m n e i0 hn h126 hr
    obtain ⟨n, rfl⟩ : ∃ q, n = q + 1 := ⟨n - 1, by omega⟩
    obtain ⟨⟨c1, c2⟩, ⟨r1, r2⟩, ⟨w1, w2⟩, ⟨w3, w4⟩⟩ := hr i i0 (by omega)
    show ∃ m', zf_M_walks_l0_b (zf_M_walks_l0 n) i m = _ ∧ _
    unfold zf_M_walks_l0_b
    rw [if_pos (by omega), ze_M_isTold (by rw [h126]; exact tin.1) (by rw [h126]; exact tin.2), zl_b, h126, zi_w_id (x := i + 1) (by omega) (by omega)]
    by_cases hti : zb t i.toNat = true
    · rw [zs_has1 tin.1 tin.2 i0 (by omega) hti, if_neg (show ¬ (1 : Int) = 0 by decide), zi_w_id (x := 0 + i) (by omega) (by omega), zi_w_id (x := 72 + i) (by omega) (by omega), zi_w_id (x := 24 + i) (by omega) (by omega), zi_w_id (x := 96 + i) (by omega) (by omega), Int.zero_add, zl_ci (by omega) (by omega), zl_ci (by omega) (by omega), zl_ci (by omega) (by omega), zl_ci (by omega) (by omega)]
      rw [zv_up_n (show 24 + i ≠ i by omega), zv_up_n (show 96 + i ≠ i by omega), zi_w_id (x := m i + m (72 + i)) (by omega) (by omega), zi_w_id (x := m i + m (72 + i) + 24) (by omega) (by omega), zi_rem_eq (by omega) (by omega) (by decide) (by decide), zi_w_id (x := m (24 + i) + m (96 + i)) (by omega) (by omega)]
      have eh : zf_M_held (m (24 + i) + m (96 + i)) 11 = some (yg_cl (m (24 + i) + m (96 + i))) := by
        unfold zf_M_held yg_cl
        (repeat' split) <;> rfl
      have hcl : 0 ≤ yg_cl (m (24 + i) + m (96 + i)) ∧ yg_cl (m (24 + i) + m (96 + i)) ≤ 11 := by
        unfold yg_cl
        (repeat' split) <;> omega
      rw [eh, zl_b]
      obtain ⟨m', e1, e2, e3, e4⟩ := ih (i + 1) (zv_up (zv_up m i ((m i + m (72 + i) + 24) % 24)) (24 + i) (yg_cl (m (24 + i) + m (96 + i)))) n (by omega) (by omega) (by omega) (by rw [zv_up_n (by omega), zv_up_n (by omega)]; exact h126) (fun j j0 j1 => by
        have hj := hr j j0 j1
        rw [zv_up_n (show 72 + j ≠ 24 + i by omega), zv_up_n (show 72 + j ≠ i by omega), zv_up_n (show 96 + j ≠ 24 + i by omega), zv_up_n (show 96 + j ≠ i by omega), zv_up_n (show j ≠ 24 + i by omega)]
        by_cases ej : j = i
        · subst ej
          rw [zv_up_s, zv_up_s]
          exact ⟨⟨by omega, by omega⟩, hcl, hj.2.2⟩
        · rw [zv_up_n ej, zv_up_n (show 24 + j ≠ 24 + i by omega), zv_up_n (show 24 + j ≠ i by omega)]
          exact hj)
      refine ⟨m', e1, fun j hj => ?_, fun j j1 j0 => ?_, fun j j0 j1 => ?_⟩
      · rw [e2 j hj, zv_up_n (by omega), zv_up_n (by omega)]
      · obtain ⟨a1, a2⟩ := e3 j (by omega) j0
        rw [a1, a2, zv_up_n (show j ≠ 24 + i by omega), zv_up_n (show j ≠ i by omega), zv_up_n (show 24 + j ≠ 24 + i by omega), zv_up_n (show 24 + j ≠ i by omega)]
        exact ⟨rfl, rfl⟩
      · by_cases ej : j = i
        · subst ej
          obtain ⟨a1, a2⟩ := e3 j (by omega) (by omega)
          rw [a1, a2, zv_up_n (show j ≠ 24 + j by omega), zv_up_s, zv_up_s]
          exact ⟨fun _ => ⟨by omega, rfl⟩, fun hn => absurd hti hn⟩
        · have := e4 j (by omega) j1
          rw [zv_up_n (show j ≠ 24 + i by omega), zv_up_n ej, zv_up_n (show 72 + j ≠ 24 + i by omega), zv_up_n (show 72 + j ≠ i by omega), zv_up_n (show 24 + j ≠ 24 + i by omega), zv_up_n (show 24 + j ≠ i by omega), zv_up_n (show 96 + j ≠ 24 + i by omega), zv_up_n (show 96 + j ≠ i by omega)] at this
          exact this
    · rw [zs_has0 tin.1 tin.2 hti, if_pos rfl]
      obtain ⟨m', e1, e2, e3, e4⟩ := ih (i + 1) m n (by omega) (by omega) (by omega) h126 hr
      refine ⟨m', e1, e2, fun j j1 j0 => e3 j (by omega) j0, fun j j0 j1 => ?_⟩
      by_cases ej : j = i
      · subst ej
        exact ⟨fun hh => absurd hh hti, fun _ => e3 j (by omega) (by omega)⟩
      · exact e4 j (by omega) j1
section YKT
variable {t h u cl sc sr ch : Int} {co ro br wc wr m : Int → Int}
theorem yk_walks (k : yk_sky t h u cl sc sr ch co ro br wc wr m) : ∃ co' ro' m', zf_Sky_beginNight_l0 wc wr zi_fu 0 co ro = some (co', ro') ∧ zf_M_walks m = some m' ∧ (∀ j, 48 ≤ j → m' j = m j) ∧ yk_sky t h u cl sc sr ch co' ro' br wc wr m' ∧ (∀ i, 0 ≤ i → i < 24 → co' i = (co i + wc i) % 24 ∧ ro' i = yg_cl (ro i + wr i)) := by
  obtain ⟨⟨ht, k126⟩, hk2, k129, hk4, hk5, hk6, hk7, ki⟩ := k
  obtain ⟨co', ro', e1, e2, -⟩ := ze_begin_l0 (wc := wc) (wr := wr) (fun i i0 i1 => ⟨(ki i i0 i1).1.2.2.2.1, (ki i i0 i1).1.2.2.2.2⟩) 24 0 co ro zi_fu (by decide) (by decide) (by decide) (fun i i0 i1 => ⟨(ki i i0 i1).1.1, (ki i i0 i1).1.2.1⟩)
  obtain ⟨m', f1, f2, -, f4⟩ := ze_walks_l0 ht 24 0 m zi_fu (by decide) (by decide) (by decide) k126 (fun i i0 i1 => ⟨(ki i i0 i1).2.1.1, (ki i i0 i1).2.1.2.1, (ki i i0 i1).2.1.2.2.2.1, (ki i i0 i1).2.1.2.2.2.2⟩)
  refine ⟨co', ro', m', e1, by unfold zf_M_walks; rw [f1]; rfl, f2, ⟨⟨ht, by rw [f2 _ (by decide)]; exact k126⟩, ⟨hk2.1, by rw [f2 _ (by decide)]; exact hk2.2⟩, by rw [f2 _ (by decide)]; exact k129, ⟨hk4.1, by rw [f2 _ (by decide)]; exact hk4.2⟩, ⟨hk5.1, by rw [f2 _ (by decide)]; exact hk5.2⟩, ⟨hk6.1, by rw [f2 _ (by decide)]; exact hk6.2⟩, ⟨hk7.1, by rw [f2 _ (by decide)]; exact hk7.2⟩, fun i i0 i1 => ?_⟩, fun i i0 i1 => e2 i i0 i1⟩
  obtain ⟨⟨a1, a2, a3, a4, a5⟩, ⟨b1, b2, b3, b4, b5⟩, c⟩ := ki i i0 i1
  obtain ⟨x1, x2⟩ := e2 i i0 i1
  obtain ⟨y1, y2⟩ := f4 i i0 i1
  have hcl : ∀ v, 0 ≤ yg_cl v ∧ yg_cl v ≤ 11 := fun v => by
    unfold yg_cl
    (repeat' split) <;> omega
  rw [f2 (48 + i) (by omega), f2 (72 + i) (by omega), f2 (96 + i) (by omega), x1, x2]
  refine ⟨⟨⟨by omega, by omega⟩, hcl _, a3, a4, a5⟩, ⟨?_, ?_, b3, b4, b5⟩, fun hb => ?_⟩
  · by_cases hb : zb t i.toNat = true
    · rw [(y1 hb).1]; exact ⟨by omega, by omega⟩
    · rw [(y2 hb).1]; exact b1
  · by_cases hb : zb t i.toNat = true
    · rw [(y1 hb).2]; exact hcl _
    · rw [(y2 hb).2]; exact b2
  · obtain ⟨c1, c2, c3, c4, c5⟩ := c hb
    obtain ⟨z1, z2⟩ := y1 hb
    rw [z1, z2, c1, c2, c4, c5]
    exact ⟨rfl, rfl, c3, rfl, rfl⟩
/-- another hour -/
theorem yk_hour (k : yk_sky t h u cl sc sr ch co ro br wc wr m) {h2 u2 : Int} (a1 : 0 ≤ h2) (a2 : h2 ≤ 23) {m2 : Int → Int} (e1 : m2 128 = h2) (e2 : m2 129 = u2) (e : ∀ j, j ≠ 128 → j ≠ 129 → m2 j = m j) : yk_sky t h2 u2 cl sc sr ch co ro br wc wr m2 := by
  obtain ⟨⟨ht, k126⟩, hk2, k129, hk4, hk5, hk6, hk7, ki⟩ := k
  refine ⟨⟨ht, by rw [e _ (by decide) (by decide)]; exact k126⟩, ⟨⟨a1, a2⟩, e1⟩, e2, ⟨hk4.1, by rw [e _ (by decide) (by decide)]; exact hk4.2⟩, ⟨hk5.1, by rw [e _ (by decide) (by decide)]; exact hk5.2⟩, ⟨hk6.1, by rw [e _ (by decide) (by decide)]; exact hk6.2⟩, ⟨hk7.1, by rw [e _ (by decide) (by decide)]; exact hk7.2⟩, fun i i0 i1 => ?_⟩
  rw [e i (by omega) (by omega), e (24 + i) (by omega) (by omega), e (48 + i) (by omega) (by omega), e (72 + i) (by omega) (by omega), e (96 + i) (by omega) (by omega)]
  exact ki i i0 i1
theorem yk_pass (k : yk_sky t h u cl sc sr ch co ro br wc wr m) : ∃ h' u' co' ro' m', zf_Sky_passHour h u co wc ro wr = some (h', u', co', ro') ∧ zf_M_passes m = some m' ∧ yk_sky t h' u' cl sc sr ch co' ro' br wc wr m' ∧ ∀ j, 48 ≤ j → j ≠ 128 → j ≠ 129 → m' j = m j := by
  obtain ⟨-, ⟨⟨h1, h2⟩, k128⟩, k129, -⟩ := id k
  unfold zf_Sky_passHour zf_M_passes
  rw [k128, zi_w_id (x := h + 1) (by omega) (by omega), zv_up_s]
  by_cases e : h + 1 = 24
  · rw [if_pos e, if_neg (by omega)]
    have k2 := yk_hour (h2 := 0) (u2 := zi_w (u + 1)) (m2 := zv_up (zv_up (zv_up m 128 (h + 1)) 128 0) 129 (zi_w (u + 1))) k (by decide) (by decide) (by rw [zv_up_n (by decide), zv_up_s]) zv_up_s (fun j j1 j2 => by rw [zv_up_n j2, zv_up_n j1, zv_up_n j1])
    obtain ⟨co', ro', m', e1, e2, e3, e4, -⟩ := yk_walks k2
    refine ⟨0, zi_w (u + 1), co', ro', m', ?_, ?_, e4, fun j j0 j1 j2 => ?_⟩
    · unfold zf_Sky_beginNight
      rw [e1]; rfl
    · rw [zv_up_n (show (129 : Int) ≠ 128 by decide), zv_up_n (show (129 : Int) ≠ 128 by decide), k129, e2]; rfl
    · rw [e3 j j0, zv_up_n j2, zv_up_n j1, zv_up_n j1]
  · rw [if_neg e, if_pos (by omega)]
    refine ⟨h + 1, u, co, ro, _, rfl, rfl, yk_hour k (by omega) (by omega) zv_up_s (by rw [zv_up_n (by decide)]; exact k129) (fun j j1 _ => zv_up_n j1), fun j _ j1 _ => zv_up_n j1⟩
/-- nights that pass without hours -/
theorem yk_night (k : yk_sky t h u cl sc sr ch co ro br wc wr m) : ∃ co' ro' m', zf_Sky_beginNight u co wc ro wr = some (zi_w (u + 1), co', ro') ∧ zf_M_walks (zv_up m 129 (zi_w (m 129 + 1))) = some m' ∧ yk_sky t h (zi_w (u + 1)) cl sc sr ch co' ro' br wc wr m' ∧ ∀ j, 48 ≤ j → j ≠ 129 → m' j = m j := by
  obtain ⟨-, ⟨⟨h1, h2⟩, k128⟩, k129, -⟩ := id k
  have k2 := yk_hour (h2 := h) (u2 := zi_w (u + 1)) (m2 := zv_up m 129 (zi_w (m 129 + 1))) k h1 h2 (by rw [zv_up_n (by decide)]; exact k128) (by rw [zv_up_s, k129]) (fun j j1 j2 => zv_up_n j2)
  obtain ⟨co', ro', m', e1, e2, e3, e4, -⟩ := yk_walks k2
  refine ⟨co', ro', m', ?_, e2, e4, fun j j0 j2 => ?_⟩
  · unfold zf_Sky_beginNight
    rw [e1]; rfl
  · rw [e3 j j0, zv_up_n j2]
end YKT
end
section
/-! Clouds that are drawn, alike on both sides. -/
def yv_lq (h u c : Int) : Int → Int := fun j => if j = 0 then h else if j = 1 then u else if j = 5 then c else 0
def yg_lot (c : Int) : Int := (25173 * c + 13849) % 65536
theorem ze_lot {c : Int} (h1 : 0 ≤ c) (h2 : c ≤ 65535) : zi_rem (zi_w ((zi_w (25173 * c)) + 13849)) 65536 = yg_lot c ∧ 0 ≤ yg_lot c ∧ yg_lot c ≤ 65535 := by
  refine ⟨?_, ?_, ?_⟩
  · rw [zi_w_id (x := 25173 * c) (by omega) (by omega), zi_w_id (x := 25173 * c + 13849) (by omega) (by omega), zi_rem_eq (by omega) (by omega) (by decide) (by decide)]
    rfl
  · unfold yg_lot; omega
  · unfold yg_lot; omega
section YKC
variable {L : zLW} {K V kd fr hf to C mk mf mh mt : Int → Int} {nc tS tL sP lP mc : Int} {t h u cl sc sr ch : Int} {co ro br wc wr m : Int → Int}
theorem yk_cl2 (k : yk_sky t h u cl sc sr ch co ro br wc wr m) {c2 h2 : Int} (a1 : z24 c2) (b1 : 0 ≤ h2) (b2 : h2 ≤ 65535) {m2 : Int → Int} (e1 : m2 130 = c2) (e2 : m2 133 = h2) (e : ∀ j, j ≠ 130 → j ≠ 133 → m2 j = m j) : yk_sky t h u c2 sc sr h2 co ro br wc wr m2 := by
  obtain ⟨⟨ht, k126⟩, hk2, k129, hk4, hk5, hk6, hk7, ki⟩ := k
  refine ⟨⟨ht, by rw [e _ (by decide) (by decide)]; exact k126⟩, ⟨hk2.1, by rw [e _ (by decide) (by decide)]; exact hk2.2⟩, by rw [e _ (by decide) (by decide)]; exact k129, ⟨a1, e1⟩, ⟨hk5.1, by rw [e _ (by decide) (by decide)]; exact hk5.2⟩, ⟨hk6.1, by rw [e _ (by decide) (by decide)]; exact hk6.2⟩, ⟨⟨b1, b2⟩, e2⟩, fun i i0 i1 => ?_⟩
  rw [e i (by omega) (by omega), e (24 + i) (by omega) (by omega), e (48 + i) (by omega) (by omega), e (72 + i) (by omega) (by omega), e (96 + i) (by omega) (by omega)]
  exact ki i i0 i1
theorem yk_draw_l (R : yl_R L K V nc tS tL sP lP kd fr hf to mc C mk mf mh mt) (m0 : Int → Int) : ∀ (d : Nat) (i s c f : Int) (g S m g2 S2 : Int → Int) (n n2 : Nat), i + d = 24 → 0 ≤ i → d < n → d < n2 → z24 s → 0 ≤ c → c ≤ 65535 → (∀ j, 0 ≤ j → j < 13 → j ≠ 5 → g j = yv_lq h u 0 j) → m 130 = s → m 133 = c → m 128 = h → m 129 = u → (∀ j, j ≠ 130 → j ≠ 133 → m j = m0 j) →
    ∃ s' c' f' g' S' m' g2' S2', zf_Sky_drawClouds_l0 nc kd hf to K V fr n s i c f g S = some (s', c', f', g', S') ∧ zf_M_drawsClouds_l0 mc mk mh mt C mf n2 i m g2 S2 = some (m', g2', S2') ∧ z24 s' ∧ (0 ≤ c' ∧ c' ≤ 65535) ∧ m' 130 = s' ∧ m' 133 = c' ∧ ∀ j, j ≠ 130 → j ≠ 133 → m' j = m0 j := by
  intro d
  induction d with
  | zero =>
    intro i s c f g S m g2 S2 n n2 e i0 hn hn2 hs c1 c2 hg e1 e2 e3 e4 e5
    obtain ⟨n, rfl⟩ : ∃ q, n = q + 1 := ⟨n - 1, by omega⟩
    obtain ⟨n2, rfl⟩ : ∃ q, n2 = q + 1 := ⟨n2 - 1, by omega⟩
    refine ⟨s, c, f, g, S, m, g2, S2, ?_, ?_, hs, ⟨c1, c2⟩, e1, e2, e5⟩
    · show zf_Sky_drawClouds_l0_b nc kd hf to K V fr (zf_Sky_drawClouds_l0 nc kd hf to K V fr n) s i c f g S = _
      unfold zf_Sky_drawClouds_l0_b
      rw [if_neg (by omega)]
    · show zf_M_drawsClouds_l0_b mc mk mh mt C mf (zf_M_drawsClouds_l0 mc mk mh mt C mf n2) i m g2 S2 = _
      unfold zf_M_drawsClouds_l0_b
      rw [if_neg (by omega)]
  | succ d ih =>
    intro i s c f g S m g2 S2 n n2 e i0 hn hn2 hs c1 c2 hg e1 e2 e3 e4 e5
    obtain ⟨n, rfl⟩ : ∃ q, n = q + 1 := ⟨n - 1, by omega⟩
    obtain ⟨n2, rfl⟩ : ∃ q, n2 = q + 1 := ⟨n2 - 1, by omega⟩
    obtain ⟨l1, l2, l3⟩ := ze_lot c1 c2
    obtain ⟨f', S', ea⟩ := yl_amtX (lt := zv_up g 5 i) R (k := 113) (high := 10) (f1 := f) (S := S) (Or.inr (Or.inr rfl)) (by decide)
    obtain ⟨gf, eg, w0, w1, w2⟩ := ze_M_feels (g := g2) (m := zv_up m 133 (yg_lot c))
    obtain ⟨S2', eb⟩ := yl_amtM (lt := zv_up gf 5 i) R (k := 113) (high := 10) (S := S2) (Or.inr (Or.inr rfl)) (by decide)
    have elt : yl_amt L 113 10 (zv_up gf 5 i) = yl_amt L 113 10 (zv_up g 5 i) := by
      refine yl_amt_c R (Or.inr (Or.inr rfl)) fun j j0 j1 => ?_
      by_cases ej : j = 5
      · rw [ej, zv_up_s, zv_up_s]
      · rw [zv_up_n ej, zv_up_n ej, hg j j0 j1 ej]
        unfold yv_lq
        by_cases j00 : j = 0
        · rw [if_pos j00, j00, w0, zv_up_n (by decide)]; exact e3
        · rw [if_neg j00]
          by_cases j11 : j = 1
          · rw [if_pos j11, j11, w1, zv_up_n (by decide)]; exact e4
          · rw [if_neg j11, if_neg ej]; exact w2 j (by omega) j1
    show ∃ s' c' f' g' S' m' g2' S2', zf_Sky_drawClouds_l0_b nc kd hf to K V fr (zf_Sky_drawClouds_l0 nc kd hf to K V fr n) s i c f g S = _ ∧ zf_M_drawsClouds_l0_b mc mk mh mt C mf (zf_M_drawsClouds_l0 mc mk mh mt C mf n2) i m g2 S2 = _ ∧ _
    unfold zf_Sky_drawClouds_l0_b zf_M_drawsClouds_l0_b
    rw [if_pos (show i < 24 by omega), if_pos (show i < 24 by omega), e2, l1, ea, zl_b, eg, zl_b, eb, zl_b, elt, zv_up_s, zi_w_id (x := i + 1) (by omega) (by omega)]
    have hg' : ∀ j, 0 ≤ j → j < 13 → j ≠ 5 → zv_up g 5 i j = yv_lq h u 0 j := fun j j0 j1 j5 => by rw [zv_up_n j5]; exact hg j j0 j1 j5
    by_cases hq : zi_rem (yg_lot c) 10 < yl_amt L 113 10 (zv_up g 5 i)
    · rw [if_pos hq, if_pos hq, zv_up_n (show (130 : Int) ≠ 133 by decide), e1]
      exact ih (i + 1) _ _ f' _ S' _ _ S2' n n2 (by omega) (by omega) (by omega) (by omega) (z24_or hs (z24_shl i0 (by omega))) l2 l3 hg' zv_up_s (by rw [zv_up_n (by decide), zv_up_s]) (by rw [zv_up_n (by decide), zv_up_n (by decide)]; exact e3) (by rw [zv_up_n (by decide), zv_up_n (by decide)]; exact e4) (fun j j1 j2 => by rw [zv_up_n j1, zv_up_n j2]; exact e5 j j1 j2)
    · rw [if_neg hq, if_neg hq]
      exact ih (i + 1) s _ f' _ S' _ _ S2' n n2 (by omega) (by omega) (by omega) (by omega) hs l2 l3 hg' (by rw [zv_up_n (by decide)]; exact e1) zv_up_s (by rw [zv_up_n (by decide)]; exact e3) (by rw [zv_up_n (by decide)]; exact e4) (fun j j1 j2 => by rw [zv_up_n j2]; exact e5 j j1 j2)
theorem yk_drawn (R : yl_R L K V nc tS tL sP lP kd fr hf to mc C mk mf mh mt) (k : yk_sky t h u cl sc sr ch co ro br wc wr m) {f : Int} {g S g2 S2 : Int → Int} :
    ∃ ch' cl' f' g' S' m' g2' S2', zf_Sky_drawClouds h u ch nc f cl g kd hf to K S V fr = some (ch', f', cl', g', S') ∧ zf_M_drawsClouds mc m g2 mk mh mt C S2 mf = some (m', g2', S2') ∧ yk_sky t h u cl' sc sr ch' co ro br wc wr m' ∧ ∀ j, j ≠ 130 → j ≠ 133 → m' j = m j := by
  obtain ⟨-, ⟨⟨h1, h2⟩, k128⟩, k129, -, -, -, ⟨⟨q1, q2⟩, k133⟩, -⟩ := id k
  obtain ⟨g1, eg, hg⟩ := ze_forget (g := g)
  obtain ⟨s', c', f', g', S', m', g2', S2', e1, e2, e3, e4, e5, e6, e7⟩ := yk_draw_l (h := h) (u := u) R m 24 0 0 ch f (zv_up (zv_up g1 0 h) 1 u) S (zv_up m 130 0) g2 S2 zi_fu zi_fu (by decide) (by decide) (by decide) (by decide) z24_0 q1 q2 (fun j j0 j1 j5 => by
    unfold yv_lq
    by_cases e1 : j = 1
    · subst e1; rfl
    by_cases e0 : j = 0
    · subst e0; rfl
    rw [zv_up_n e1, zv_up_n e0, if_neg e0, if_neg e1, if_neg j5]
    exact hg j j0 j1) zv_up_s (by rw [zv_up_n (by decide)]; exact k133) (by rw [zv_up_n (by decide)]; exact k128) (by rw [zv_up_n (by decide)]; exact k129) (fun j j1 _ => zv_up_n j1)
  refine ⟨c', s', f', g', S', m', g2', S2', ?_, ?_, yk_cl2 k e3 e4.1 e4.2 e5 e6 e7, e7⟩
  · unfold zf_Sky_drawClouds zf_Law_setTime
    rw [eg, zl_b, zl_b, e1]
    rfl
  · unfold zf_M_drawsClouds
    rw [e2]
    rfl
end YKC
end
section
/-! Ways over the sea, and one hour by a star: alike on both sides. -/
def yk_sea (ts : Int) (gp gl m : Int → Int) : Prop := zl_rel ts gp gl m ∧ ∀ s, 0 ≤ s → s < 6 → 0 ≤ gp s ∧ gp s < 288
def yg_ld (gl : Int → Int) (p : Int) : Bool := zi_tb (gl (p / 24)) (p % 24)
def yg_go (p how : Int) : Int := if how = 1 then 24 * (p / 24) + (p % 24 + 1) % 24 else if how = 2 then 24 * (p / 24) + (p % 24 + 23) % 24 else if how = 3 then (if p / 24 = 11 then -1 else p + 24) else if how = 4 then (if p / 24 = 0 then -1 else p - 24) else p
theorem yg_go_in {p how : Int} (h1 : 0 ≤ p) (h2 : p < 288) : -1 ≤ yg_go p how ∧ yg_go p how < 288 := by
  unfold yg_go
  (repeat' split) <;> omega
section YSE
variable {ts p how : Int} {gp gl m : Int → Int}
theorem ze_isLandX (k : yk_sea ts gp gl m) (h1 : 0 ≤ p) (h2 : p < 288) : zf_Sea_isLand p gl = some (if yg_ld gl p = true then 1 else 0) := by
  obtain ⟨⟨-, -, -, -, hr, -⟩, -⟩ := k
  have hy := hr (p / 24) (by omega) (by omega)
  unfold zf_Sea_isLand yg_ld
  rw [ze_X_rowOf h1 h2, zl_b, zl_ci (by omega) (by omega), ze_X_columnOf h1 h2, zl_b]
  obtain ⟨c1, c2⟩ := zs_b01 (t := gl (p / 24)) (i := p % 24) hy.1 (by omega) (by omega) (by omega)
  by_cases h : zi_tb (gl (p / 24)) (p % 24) = true
  · rw [c1 h, if_neg (by decide), if_pos h]
  · rw [c2 h, if_pos rfl, if_neg h]
theorem ze_isLandM (k : yk_sea ts gp gl m) (h1 : 0 ≤ p) (h2 : p < 288) : zf_M_isLand p m = some (if yg_ld gl p = true then 1 else 0) := by
  obtain ⟨⟨-, -, -, -, -, hl⟩, -⟩ := k
  have hp := hl (p % 24) (p / 24) (by omega) (by omega) (by omega) (by omega)
  rw [show 134 + (24 * (p / 24) + p % 24) = 134 + p by omega] at hp
  unfold zf_M_isLand yg_ld
  rw [zi_w_id (x := 134 + p) (by omega) (by omega), zl_ci (by omega) (by omega), hp]
  by_cases h : zi_tb (gl (p / 24)) (p % 24) = true
  · rw [if_pos h, if_pos rfl]
  · rw [if_neg h, if_neg (by decide)]
theorem ze_goesTo (h1 : 0 ≤ p) (h2 : p < 288) : zf_M_goesTo p how = some (yg_go p how) := by
  have e1 : zi_div p 24 = p / 24 := zi_div_eq h1 (by omega) (by decide) (by decide)
  have e2 : zi_rem p 24 = p % 24 := zi_rem_eq h1 (by omega) (by decide) (by decide)
  unfold zf_M_goesTo yg_go
  rw [e1, e2, zi_w_id (x := 24 * (p / 24)) (by omega) (by omega), zi_w_id (x := p % 24 + 1) (by omega) (by omega), zi_w_id (x := p % 24 + 24) (by omega) (by omega), zi_w_id (x := p % 24 + 24 - 1) (by omega) (by omega), zi_w_id (x := p / 24 + 1) (by omega) (by omega), zi_w_id (x := p / 24 - 1) (by omega) (by omega), zi_rem_eq (a := p % 24 + 1) (by omega) (by omega) (by decide) (by decide), zi_rem_eq (a := p % 24 + 24 - 1) (by omega) (by omega) (by decide) (by decide)]
  rw [zi_w_id (x := 24 * (p / 24) + (p % 24 + 1) % 24) (by omega) (by omega), zi_w_id (x := 24 * (p / 24) + (p % 24 + 24 - 1) % 24) (by omega) (by omega), zi_w_id (x := 24 * (p / 24 + 1)) (by omega) (by omega), zi_w_id (x := 24 * (p / 24 + 1) + p % 24) (by omega) (by omega), zi_w_id (x := 24 * (p / 24 - 1)) (by omega) (by omega), zi_w_id (x := 24 * (p / 24 - 1) + p % 24) (by omega) (by omega), zi_w_id (x := 24 * (p / 24) + p % 24) (by omega) (by omega)]
  by_cases a1 : how = 1
  · rw [if_pos a1, if_pos a1, if_neg (by omega), if_pos (by omega)]
  rw [if_neg a1, if_neg a1]
  by_cases a2 : how = 2
  · rw [if_pos a2, if_pos a2, if_neg (by omega), if_pos (by omega), show p % 24 + 24 - 1 = p % 24 + 23 by omega]
  rw [if_neg a2, if_neg a2]
  by_cases a3 : how = 3
  · rw [if_pos a3, if_pos a3, if_neg (by omega)]
    by_cases h11 : p / 24 = 11
    · rw [if_pos h11, if_neg (by omega)]
    · rw [if_neg h11, if_pos (by omega), show 24 * (p / 24 + 1) + p % 24 = p + 24 by omega]
  rw [if_neg a3, if_neg a3]
  by_cases a4 : how = 4
  · rw [if_pos a4, if_pos a4]
    by_cases h0 : p / 24 = 0
    · rw [if_pos h0, if_pos (by omega)]
    · rw [if_neg h0, if_neg (by omega), if_pos (by omega), show 24 * (p / 24 - 1) + p % 24 = p - 24 by omega]
  rw [if_neg a4, if_neg a4, if_neg (by omega), if_pos (by omega), show 24 * (p / 24) + p % 24 = p by omega]
/-- the end of goFrom, at a place -/
theorem ze_goEnd (k : yk_sea ts gp gl m) {x y : Int} : ((zf_X_isPlace x y).bind fun r4 => (if r4 = 0 then (some (-1)) else ((zf_X_placeOf x y).bind fun r6 => ((zf_Sea_isLand r6 gl).bind fun r7 => (if r7 = 0 then ((zf_X_placeOf x y).bind fun r9 => (some r9)) else (some (-1 : Int))))))) = some (if zs_pl x y = 0 ∨ yg_ld gl (24 * y + x) = true then -1 else 24 * y + x) := by
  rw [ze_X_isPlace, zl_b]
  by_cases h : zs_pl x y = 0
  · rw [if_pos h, if_pos (Or.inl h)]
  · obtain ⟨x1, x2, y1, y2⟩ := zs_pl_ne h
    rw [if_neg h, ze_X_placeOf x1 x2 y1 y2, zl_b, ze_isLandX k (by omega) (by omega), zl_b]
    by_cases hl : yg_ld gl (24 * y + x) = true
    · rw [if_pos hl, if_neg (by decide), if_pos (Or.inr hl)]
    · rw [if_neg hl, if_pos rfl, zl_b, if_neg (fun hh => hh.elim h hl)]
theorem zs_pl1 {x y : Int} (h : 0 ≤ x ∧ x < 24 ∧ 0 ≤ y ∧ y < 12) : ¬ zs_pl x y = 0 := by
  unfold zs_pl
  rw [if_pos h]; decide
theorem zs_pl0 {x y : Int} (h : ¬ (0 ≤ x ∧ x < 24 ∧ 0 ≤ y ∧ y < 12)) : zs_pl x y = 0 := by
  unfold zs_pl
  rw [if_neg h]
theorem ze_goFrom (k : yk_sea ts gp gl m) (h1 : 0 ≤ p) (h2 : p < 288) : zf_Sea_goFrom p how gl = some (if yg_go p how = -1 ∨ yg_ld gl (yg_go p how) = true then -1 else yg_go p how) := by
  unfold zf_Sea_goFrom
  rw [ze_X_columnOf h1 h2, ze_X_rowOf h1 h2, zl_b, zl_b, zi_w_id (x := p % 24 + 1) (by omega) (by omega), zi_w_id (x := p % 24 + 24) (by omega) (by omega), zi_w_id (x := p % 24 + 24 - 1) (by omega) (by omega), zi_w_id (x := p / 24 + 1) (by omega) (by omega), zi_w_id (x := p / 24 + -1) (by omega) (by omega), zi_rem_eq (a := p % 24 + 1) (by omega) (by omega) (by decide) (by decide), zi_rem_eq (a := p % 24 + 24 - 1) (by omega) (by omega) (by decide) (by decide)]
  rw [ze_goEnd k, ze_goEnd k, ze_goEnd k, ze_goEnd k, ze_goEnd k]
  unfold yg_go
  by_cases a1 : how = 1
  · rw [if_pos a1, if_pos a1]
    have n1 : ¬ (24 * (p / 24) + (p % 24 + 1) % 24 = -1) := by omega
    have n2 : ¬ zs_pl ((p % 24 + 1) % 24) (p / 24) = 0 := zs_pl1 (by omega)
    by_cases hl : yg_ld gl (24 * (p / 24) + (p % 24 + 1) % 24) = true
    · rw [if_pos (Or.inr hl), if_pos (Or.inr hl)]
    · rw [if_neg (fun hh => hh.elim n2 hl), if_neg (fun hh => hh.elim n1 hl)]
  rw [if_neg a1, if_neg a1]
  by_cases a2 : how = 2
  · rw [if_pos a2, if_pos a2, show p % 24 + 24 - 1 = p % 24 + 23 by omega]
    have n1 : ¬ (24 * (p / 24) + (p % 24 + 23) % 24 = -1) := by omega
    have n2 : ¬ zs_pl ((p % 24 + 23) % 24) (p / 24) = 0 := zs_pl1 (by omega)
    by_cases hl : yg_ld gl (24 * (p / 24) + (p % 24 + 23) % 24) = true
    · rw [if_pos (Or.inr hl), if_pos (Or.inr hl)]
    · rw [if_neg (fun hh => hh.elim n2 hl), if_neg (fun hh => hh.elim n1 hl)]
  rw [if_neg a2, if_neg a2]
  by_cases a3 : how = 3
  · rw [if_pos a3, if_pos a3]
    by_cases h11 : p / 24 = 11
    · rw [if_pos h11, if_pos (Or.inl (zs_pl0 (by omega))), if_pos (Or.inl rfl)]
    · rw [if_neg h11, show 24 * (p / 24 + 1) + p % 24 = p + 24 by omega]
      have n2 : ¬ zs_pl (p % 24) (p / 24 + 1) = 0 := zs_pl1 (by omega)
      by_cases hl : yg_ld gl (p + 24) = true
      · rw [if_pos (Or.inr hl), if_pos (Or.inr hl)]
      · rw [if_neg (fun hh => hh.elim n2 hl), if_neg (fun hh => hh.elim (fun e => by omega) hl)]
  rw [if_neg a3, if_neg a3]
  by_cases a4 : how = 4
  · rw [if_pos a4, if_pos a4]
    by_cases h0 : p / 24 = 0
    · rw [if_pos h0, if_pos (Or.inl (zs_pl0 (by omega))), if_pos (Or.inl rfl)]
    · rw [if_neg h0, show 24 * (p / 24 + -1) + p % 24 = p - 24 by omega]
      have n2 : ¬ zs_pl (p % 24) (p / 24 + -1) = 0 := zs_pl1 (by omega)
      by_cases hl : yg_ld gl (p - 24) = true
      · rw [if_pos (Or.inr hl), if_pos (Or.inr hl)]
      · rw [if_neg (fun hh => hh.elim n2 hl), if_neg (fun hh => hh.elim (fun e => by omega) hl)]
  rw [if_neg a4, if_neg a4, show 24 * (p / 24) + p % 24 = p by omega]
  have n2 : ¬ zs_pl (p % 24) (p / 24) = 0 := zs_pl1 (by omega)
  by_cases hl : yg_ld gl p = true
  · rw [if_pos (Or.inr hl), if_pos (Or.inr hl)]
  · rw [if_neg (fun hh => hh.elim n2 hl), if_neg (fun hh => hh.elim (fun e => by omega) hl)]
end YSE
/-- where one goes, a star being so far to the right, and up -/
def yg_st (gl : Int → Int) (p r up : Int) : Int := if yg_ab r < yg_ab up then (if yg_ld gl (p + 24 * (if 0 < up then 1 else if up < 0 then -1 else 0)) = true then p else p + 24 * (if 0 < up then 1 else if up < 0 then -1 else 0)) else (if yg_ld gl (24 * (p / 24) + (p % 24 + (if 0 < r then 1 else if r < 0 then -1 else 0) + 24) % 24) = true then p else 24 * (p / 24) + (p % 24 + (if 0 < r then 1 else if r < 0 then -1 else 0) + 24) % 24)
section YST
variable {L : zLW} {K V kd fr hf to C mk mf mh mt : Int → Int} {nc tS tL sP lP mc : Int} {t h u cl sc sr ch ts p i : Int} {co ro br wc wr m gp gl : Int → Int}
theorem ym_steersFrom (R : yl_R L K V nc tS tL sP lP kd fr hf to mc C mk mf mh mt) (k : yk_sky t h u cl sc sr ch co ro br wc wr m) (z : yk_sea ts gp gl m) (p1 : 0 ≤ p) (p2 : p < 288) (i1 : 0 ≤ i) (i2 : i < 24) (hti : zb t i.toNat = true) {g S : Int → Int} :
    ∃ g' S', zf_M_steersFrom p i mc m mk g mh mt C S = some ((if yv_see L tS h u cl sc sr co ro br (p % 24) (p / 24) i = true then yg_st gl p (yg_tr (p % 24) (yv_st h co i)) (ro i - p / 24) else p), g', S') := by
  obtain ⟨g', S', e1⟩ := ym_isSeen (x := p % 24) (y := p / 24) (g := g) (S := S) R k i1 i2 hti (by omega) (by omega) (by omega) (by omega)
  rw [show 24 * (p / 24) + p % 24 = p by omega] at e1
  obtain ⟨⟨ht, k126⟩, ⟨⟨h1, h2⟩, k128⟩, k129, -, -, -, -, ki⟩ := k
  obtain ⟨⟨⟨c1, c2⟩, ⟨r1, r2⟩, -⟩, -, e⟩ := ki i i1 i2
  obtain ⟨ea, eb, -⟩ := e hti
  have hst := yv_st_in (h := h) (co := co) (i := i)
  have est : (m i + m 128) % 24 = yv_st h co i := by rw [ea, k128]; rfl
  have ed : zi_div p 24 = p / 24 := zi_div_eq p1 (by omega) (by decide) (by decide)
  have em : zi_rem p 24 = p % 24 := zi_rem_eq p1 (by omega) (by decide) (by decide)
  obtain ⟨t1, t2, t3, t4⟩ := ze_toRight (a := p % 24) (b := yv_st h co i) (by omega) (by omega) hst.1 hst.2
  refine ⟨g', S', ?_⟩
  unfold zf_M_steersFrom
  rw [e1, zl_b]
  by_cases hs : yv_see L tS h u cl sc sr co ro br (p % 24) (p / 24) i = true
  · rw [if_pos hs, if_neg (show ¬ (1 : Int) = 0 by decide), if_pos hs, ze_M_standsAt i1 i2 (by omega) (by omega) (by omega) (by omega), zl_b, est, em, ed, t1, zl_b, zi_w_id (x := 24 + i) (by omega) (by omega), zl_ci (by omega) (by omega), ze_M_size2 (by omega) (by omega), zl_b, eb, zi_w_id (x := ro i - p / 24) (by omega) (by omega), ze_M_size2 (by omega) (by omega), zl_b, ze_M_sign, zl_b, ze_M_sign, zl_b]
    unfold yg_st
    generalize hr : yg_tr (p % 24) (yv_st h co i) = r at t2 t3 ⊢
    generalize hup : ro i - p / 24 = up
    by_cases hc : yg_ab r < yg_ab up
    · rw [if_pos hc, if_pos hc]
      have hab := yg_ab_in (a := up)
      have hab2 := yg_ab_in (a := r)
      have hsg : ∃ s, (if 0 < up then (1 : Int) else if up < 0 then -1 else 0) = s ∧ ((s = 1 ∧ 0 < up) ∨ (s = -1 ∧ up < 0)) := by
        by_cases u1 : 0 < up
        · exact ⟨1, if_pos u1, Or.inl ⟨rfl, u1⟩⟩
        · refine ⟨-1, by rw [if_neg u1, if_pos (by omega)], Or.inr ⟨rfl, by omega⟩⟩
      obtain ⟨s, es, hs2⟩ := hsg
      have hin : 0 ≤ p + 24 * s ∧ p + 24 * s < 288 := by omega
      rw [es, zi_w_id (x := 24 * s) (by omega) (by omega), zi_w_id (x := p + 24 * s) (by omega) (by omega), ze_isLandM z hin.1 hin.2, zl_b]
      by_cases hl : yg_ld gl (p + 24 * s) = true
      · rw [if_pos hl, if_pos hl, if_neg (show ¬ (1 : Int) = 0 by decide)]
      · rw [if_neg hl, if_neg hl, if_pos rfl]
    · rw [if_neg hc, if_neg hc]
      have hsg : ∃ s, (if 0 < r then (1 : Int) else if r < 0 then -1 else 0) = s ∧ -1 ≤ s ∧ s ≤ 1 := ⟨_, rfl, by (repeat' split) <;> omega, by (repeat' split) <;> omega⟩
      obtain ⟨s, es, hs2, hs3⟩ := hsg
      rw [es, zi_w_id (x := 24 * (p / 24)) (by omega) (by omega), zi_w_id (x := p % 24 + s) (by omega) (by omega), zi_w_id (x := p % 24 + s + 24) (by omega) (by omega), zi_rem_eq (a := p % 24 + s + 24) (by omega) (by omega) (by decide) (by decide), zi_w_id (x := 24 * (p / 24) + (p % 24 + s + 24) % 24) (by omega) (by omega), ze_isLandM z (by omega) (by omega), zl_b]
      by_cases hl : yg_ld gl (24 * (p / 24) + (p % 24 + s + 24) % 24) = true
      · rw [if_pos hl, if_pos hl, if_neg (show ¬ (1 : Int) = 0 by decide)]
      · rw [if_neg hl, if_neg hl, if_pos rfl]
  · rw [if_neg hs, if_pos rfl, if_neg hs]
theorem yg_st_in {r up : Int} (p1 : 0 ≤ p) (p2 : p < 288) (u1 : 0 ≤ up + p / 24) (u2 : up + p / 24 ≤ 11) : 0 ≤ yg_st gl p r up ∧ yg_st gl p r up < 288 := by
  have key : ∀ s : Int, ((s = 1 ∧ 0 < up) ∨ (s = -1 ∧ up < 0) ∨ s = 0) → 0 ≤ p + 24 * s ∧ p + 24 * s < 288 := fun s hs => by omega
  unfold yg_st
  by_cases hc : yg_ab r < yg_ab up
  · rw [if_pos hc]
    have := key (if 0 < up then 1 else if up < 0 then -1 else 0) (by (repeat' split) <;> omega)
    split <;> omega
  · rw [if_neg hc]
    split <;> omega
end YST
end
section
/-! One hour by a star in the class, and steered on both sides. -/
theorem zl_bb {α β γ : Type} {x : Option α} {f : α → Option β} {g : β → Option γ} : ((x.bind f).bind g) = x.bind fun a => (f a).bind g := by cases x <;> rfl
section YSX
variable {L : zLW} {K V kd fr hf to C mk mf mh mt : Int → Int} {nc tS tL sP lP mc : Int} {t h u cl sc sr ch ts p i : Int} {co ro br wc wr m gp gl : Int → Int}
theorem yx_step (R : yl_R L K V nc tS tL sP lP kd fr hf to mc C mk mf mh mt) (k : yk_sky t h u cl sc sr ch co ro br wc wr m) (z : yk_sea ts gp gl m) (p1 : 0 ≤ p) (p2 : p < 288) (i1 : 0 ≤ i) (i2 : i < 24) (hti : zb t i.toNat = true) {f2 f3 as ho f14 : Int} {g S : Int → Int} (hc : yv_ca L sP h u co ro br as ho) :
    ∃ as' ho' a' g' S', zf_Pilot_step p i f2 f3 h u t sc sr cl tS as ho nc f14 sP g co ro br kd hf to K S V gl = some ((if yv_see L tS h u cl sc sr co ro br (p % 24) (p / 24) i = true then yg_st gl p (yg_tr (p % 24) (yv_st h co i)) (ro i - p / 24) else p), p % 24, p / 24, as', ho', a', g', S') ∧ yv_ca L sP h u co ro br as' ho' := by
  obtain ⟨⟨ht, k126⟩, ⟨⟨h1, h2⟩, k128⟩, k129, ⟨hcl, -⟩, -, -, -, ki⟩ := k
  obtain ⟨⟨⟨c1, c2⟩, ⟨r1, r2⟩, -⟩, -, -⟩ := ki i i1 i2
  obtain ⟨g1, eg, hg⟩ := ze_goTo (x := p % 24) (y := p / 24) (f0 := f2) (f1 := f3) (h := h) (u := u) (g := g)
  obtain ⟨as', ho', a', g', S', e1, hg', hc'⟩ := yx_sees (t := t) (cl := cl) (sc := sc) (sr := sr) (f13 := f14) (S := S) (x := p % 24) (y := p / 24) R ht hcl h1 h2 i1 i2 c1 c2 r1 r2 (by omega) (by omega) (by omega) (by omega) hg hc
  refine ⟨as', ho', a', g', S', ?_, hc'⟩
  have hst := yv_st_in (h := h) (co := co) (i := i)
  unfold zf_Pilot_step
  rw [ze_X_columnOf p1 p2, zl_b, ze_X_rowOf p1 p2, zl_b, eg, zl_b]
  show ((zf_View_sees i t h (p % 24) (p / 24) sc sr cl tS as ho nc f14 sP co ro g1 br kd hf to K S V).bind _) = _
  rw [e1, zl_b, hti, Bool.true_and]
  by_cases hs : yv_see L tS h u cl sc sr co ro br (p % 24) (p / 24) i = true
  · rw [if_pos hs, if_neg (show ¬ (1 : Int) = 0 by decide), if_pos hs, ze_Sky_standing i1 i2 c1 c2 h1 h2, zl_b, show (co i + h) % 24 = yv_st h co i from rfl, zi_w_id (x := yv_st h co i - p % 24) (by omega) (by omega), ze_floorMod (by omega) (by omega), zl_b, zi_w_id (x := 24 - (yv_st h co i - p % 24) % 24) (by omega) (by omega), ze_Math_min, zl_b, zl_ci i1 (by omega), zi_w_id (x := ro i - p / 24) (by omega) (by omega), ze_Math_ab2 (by omega) (by omega), zl_b]
    have e7 : ∃ r7, (yv_st h co i - p % 24) % 24 = r7 ∧ 0 ≤ r7 ∧ r7 ≤ 23 ∧ yg_tr (p % 24) (yv_st h co i) = if 12 < r7 then r7 - 24 else r7 := by
      refine ⟨_, rfl, by omega, by omega, ?_⟩
      unfold yg_tr
      (repeat' split) <;> omega
    obtain ⟨r7, er7, q1, q2, etr⟩ := e7
    have e8 : ∃ r8, (if 24 - r7 < r7 then 24 - r7 else r7) = r8 ∧ 0 ≤ r8 ∧ yg_ab (yg_tr (p % 24) (yv_st h co i)) = r8 ∧ (r8 = 0 ↔ r7 = 0) := by
      refine ⟨_, rfl, ?_, ?_, ?_⟩
      · split <;> omega
      · rw [etr]
        unfold yg_ab
        (repeat' split) <;> omega
      · split <;> omega
    obtain ⟨r8, er8, q3, eab, q4⟩ := e8
    rw [er7, er8]
    generalize hup : ro i - p / 24 = up
    have u1 : 0 ≤ up + p / 24 := by omega
    have u2 : up + p / 24 ≤ 11 := by omega
    have hab := yg_ab_in (a := up)
    have nxt : ∀ how q, yg_go p how = q → q ≠ -1 → ((zf_Sea_goFrom p how gl).bind fun r29 => (if r29 = (-1) then (some (p, p % 24, p / 24, as', ho', a', g', S')) else (some (r29, p % 24, p / 24, as', ho', a', g', S')))) = some ((if yg_ld gl q = true then p else q), p % 24, p / 24, as', ho', a', g', S') := by
      intro how q eq hq
      rw [ze_goFrom z p1 p2, zl_b, eq]
      by_cases hl : yg_ld gl q = true
      · rw [if_pos (Or.inr hl), if_pos rfl, if_pos hl]
      · rw [show (if q = -1 ∨ yg_ld gl q = true then -1 else q) = q from if_neg (fun hh => hh.elim hq hl), if_neg hq, if_neg hl]
    have tail : ¬ (r8 = 0 ∧ up = 0) → (if r8 < yg_ab up then (if 0 < up then ((zf_Sea_goFrom p 3 gl).bind fun r29 => (if r29 = (-1) then (some (p, p % 24, p / 24, as', ho', a', g', S')) else (some (r29, p % 24, p / 24, as', ho', a', g', S')))) else ((zf_Sea_goFrom p 4 gl).bind fun r27 => (if r27 = (-1) then (some (p, p % 24, p / 24, as', ho', a', g', S')) else (some (r27, p % 24, p / 24, as', ho', a', g', S'))))) else (if 12 < r7 then ((zf_Sea_goFrom p 2 gl).bind fun r32 => (if r32 = (-1) then (some (p, p % 24, p / 24, as', ho', a', g', S')) else (some (r32, p % 24, p / 24, as', ho', a', g', S')))) else ((zf_Sea_goFrom p 1 gl).bind fun r34 => (if r34 = (-1) then (some (p, p % 24, p / 24, as', ho', a', g', S')) else (some (r34, p % 24, p / 24, as', ho', a', g', S'))))))
        = some (yg_st gl p (yg_tr (p % 24) (yv_st h co i)) up, p % 24, p / 24, as', ho', a', g', S') := by
      intro hno
      unfold yg_st
      rw [eab, etr]
      by_cases hcmp : r8 < yg_ab up
      · rw [if_pos hcmp, if_pos hcmp]
        by_cases hu : 0 < up
        · rw [if_pos hu, if_pos hu]
          exact nxt 3 (p + 24 * 1) (by unfold yg_go; rw [if_neg (by decide), if_neg (by decide), if_pos rfl, if_neg (by omega)]; rfl) (by omega)
        · have hu2 : up < 0 := by omega
          rw [if_neg hu, if_neg hu, if_pos hu2]
          exact nxt 4 (p + 24 * -1) (by unfold yg_go; rw [if_neg (by decide), if_neg (by decide), if_neg (by decide), if_pos rfl, if_neg (by omega)]; omega) (by omega)
      · rw [if_neg hcmp, if_neg hcmp]
        by_cases h12 : 12 < r7
        · rw [if_pos h12, if_pos h12, if_neg (show ¬ 0 < r7 - 24 by omega), if_pos (show r7 - 24 < 0 by omega)]
          exact nxt 2 _ (by unfold yg_go; rw [if_neg (by decide), if_pos rfl, show p % 24 + -1 + 24 = p % 24 + 23 by omega]) (by omega)
        · have hr7 : 0 < r7 := by
            apply Int.not_le.mp
            intro hle
            exact hno ⟨q4.mpr (by omega), by omega⟩
          rw [if_neg h12, if_neg h12, if_pos hr7]
          exact nxt 1 _ (by unfold yg_go; rw [if_pos rfl]; omega) (by omega)
    by_cases h8 : r8 = 0
    · rw [if_pos h8]
      by_cases hu : up = 0
      · rw [if_pos hu]
        have : yg_st gl p (yg_tr (p % 24) (yv_st h co i)) up = p := by
          unfold yg_st
          rw [eab, etr, h8, hu, if_neg (by unfold yg_ab; decide)]
          have h7 := q4.mp h8
          rw [h7, if_neg (show ¬ (12 : Int) < 0 by decide), if_neg (show ¬ (0 : Int) < 0 by decide), if_neg (show ¬ (0 : Int) < 0 by decide), show 24 * (p / 24) + (p % 24 + 0 + 24) % 24 = p by omega]
          split <;> rfl
        rw [this]
      · rw [if_neg hu]
        exact tail (fun hh => hu hh.2)
    · rw [if_neg h8]
      exact tail (fun hh => h8 hh.1)
  · rw [if_neg hs, if_pos rfl, if_neg hs]
theorem yk_sea_fr (z : yk_sea ts gp gl m) {m2 : Int → Int} (e : ∀ j, (120 ≤ j ∧ j ≤ 125) ∨ j = 127 ∨ 134 ≤ j → m2 j = m j) : yk_sea ts gp gl m2 := by
  obtain ⟨⟨z1, z2, z3, z4, z5, z6⟩, z7⟩ := z
  refine ⟨⟨z1, z2, (e _ (Or.inr (Or.inl rfl))).trans z3, fun s s1 s2 => (e _ (by omega)).trans (z4 s s1 s2), z5, fun x y x1 x2 y1 y2 => (e _ (by omega)).trans (z6 x y x1 x2 y1 y2)⟩, z7⟩
theorem yk_sea_up (z : yk_sea ts gp gl m) {s q : Int} (s1 : 0 ≤ s) (s2 : s < 6) (q1 : 0 ≤ q) (q2 : q < 288) : yk_sea ts (zv_up gp s q) gl (zv_up m (120 + s) q) := by
  obtain ⟨⟨z1, z2, z3, z4, z5, z6⟩, z7⟩ := z
  refine ⟨⟨z1, z2, by rw [zv_up_n (by omega)]; exact z3, fun j j1 j2 => ?_, z5, fun x y x1 x2 y1 y2 => by rw [zv_up_n (by omega)]; exact z6 x y x1 x2 y1 y2⟩, fun j j1 j2 => ?_⟩
  · by_cases e : j = s
    · rw [e, zv_up_s, zv_up_s]
    · rw [zv_up_n e, zv_up_n (by omega)]; exact z4 j j1 j2
  · by_cases e : j = s
    · rw [e, zv_up_s]; exact ⟨q1, q2⟩
    · rw [zv_up_n e]; exact z7 j j1 j2
theorem yk_sky_fr (k : yk_sky t h u cl sc sr ch co ro br wc wr m) {m2 : Int → Int} (e : ∀ j, j < 120 ∨ j = 126 ∨ (128 ≤ j ∧ j ≤ 133) → m2 j = m j) : yk_sky t h u cl sc sr ch co ro br wc wr m2 := by
  obtain ⟨⟨ht, k126⟩, hk2, k129, hk4, hk5, hk6, hk7, ki⟩ := k
  refine ⟨⟨ht, (e _ (by omega)).trans k126⟩, ⟨hk2.1, (e _ (by omega)).trans hk2.2⟩, (e _ (by omega)).trans k129, ⟨hk4.1, (e _ (by omega)).trans hk4.2⟩, ⟨hk5.1, (e _ (by omega)).trans hk5.2⟩, ⟨hk6.1, (e _ (by omega)).trans hk6.2⟩, ⟨hk7.1, (e _ (by omega)).trans hk7.2⟩, fun i i0 i1 => ?_⟩
  rw [e i (by omega), e (24 + i) (by omega), e (48 + i) (by omega), e (72 + i) (by omega), e (96 + i) (by omega)]
  exact ki i i0 i1
theorem ze_open {f : Int} {g : Int → Int} : ∃ g2, zf_View_open f g = some (0, g2) ∧ ∀ i, 0 ≤ i → i < 24 → g2 i = 0 := by
  obtain ⟨g2, e, a⟩ := ze_fill24 (v := 0) (g := g)
  refine ⟨g2, ?_, a⟩
  unfold zf_View_open
  rw [e]; rfl
theorem yk_steered_l (R : yl_R L K V nc tS tL sP lP kd fr hf to mc C mk mf mh mt) {s dr N : Int} (hN : N ≤ 48) (s1 : 0 ≤ s) (s2 : s < 6) (i1 : 0 ≤ i) (i2 : i < 24) (hti : zb t i.toNat = true) : ∀ (d : Nat) (j p as vx vy h u cl ho f ch : Int) (pa g co ro S : Int → Int) (m g2 S2 gp : Int → Int) (n n2 : Nat), N - j ≤ d → 0 ≤ j → d < n → d < n2 → yk_sky t h u cl sc sr ch co ro br wc wr m → yk_sea ts gp gl m → gp s = p →
    ∃ p' as' vx' vy' h' u' cl' ho' f' ch' pa' g' co' ro' S' m' g2' S2', zf_X_steered_l0 i N dr t sc sr tS nc sP br kd hf to K V gl wc wr fr n p j as vx vy h u cl ho f ch pa g co ro S = some (p', as', vx', vy', h', u', cl', ho', f', ch', pa', g', co', ro', S') ∧
      zf_M_steered_l0 s i N dr mc mk mh mt C mf n2 j m g2 S2 = some (m', g2', S2') ∧ yk_sky t h' u' cl' sc sr ch' co' ro' br wc wr m' ∧ yk_sea ts (zv_up gp s p') gl m' ∧ (0 ≤ p' ∧ p' < 288) := by
  intro d
  induction d with
  | zero =>
    intro j p as vx vy h u cl ho f ch pa g co ro S m g2 S2 gp n n2 hd j0 hn hn2 k z hp
    obtain ⟨n, rfl⟩ : ∃ q, n = q + 1 := ⟨n - 1, by omega⟩
    obtain ⟨n2, rfl⟩ : ∃ q, n2 = q + 1 := ⟨n2 - 1, by omega⟩
    have hb := z.2 s s1 s2
    refine ⟨p, as, vx, vy, h, u, cl, ho, f, ch, pa, g, co, ro, S, m, g2, S2, ?_, ?_, k, ?_, by omega⟩
    · show zf_X_steered_l0_b i N dr t sc sr tS nc sP br kd hf to K V gl wc wr fr (zf_X_steered_l0 i N dr t sc sr tS nc sP br kd hf to K V gl wc wr fr n) p j as vx vy h u cl ho f ch pa g co ro S = _
      unfold zf_X_steered_l0_b
      rw [if_neg (by omega)]
    · show zf_M_steered_l0_b s i N dr mc mk mh mt C mf (zf_M_steered_l0 s i N dr mc mk mh mt C mf n2) j m g2 S2 = _
      unfold zf_M_steered_l0_b
      rw [if_neg (by omega)]
    · have : zv_up gp s p = gp := funext fun x => by
        by_cases e : x = s
        · rw [e, zv_up_s, hp]
        · rw [zv_up_n e]
      rw [this]; exact z
  | succ d ih =>
    intro j p as vx vy h u cl ho f ch pa g co ro S m g2 S2 gp n n2 hd j0 hn hn2 k z hp
    obtain ⟨n, rfl⟩ : ∃ q, n = q + 1 := ⟨n - 1, by omega⟩
    obtain ⟨n2, rfl⟩ : ∃ q, n2 = q + 1 := ⟨n2 - 1, by omega⟩
    have hb := z.2 s s1 s2
    show ∃ p' as' vx' vy' h' u' cl' ho' f' ch' pa' g' co' ro' S' m' g2' S2', zf_X_steered_l0_b i N dr t sc sr tS nc sP br kd hf to K V gl wc wr fr (zf_X_steered_l0 i N dr t sc sr tS nc sP br kd hf to K V gl wc wr fr n) p j as vx vy h u cl ho f ch pa g co ro S = _ ∧ zf_M_steered_l0_b s i N dr mc mk mh mt C mf (zf_M_steered_l0 s i N dr mc mk mh mt C mf n2) j m g2 S2 = _ ∧ _
    unfold zf_X_steered_l0_b zf_M_steered_l0_b
    by_cases hj : j < N
    · rw [if_pos hj, if_pos hj, zi_w_id (x := j + 1) (by omega) (by omega)]
      obtain ⟨pa0, ep, -⟩ := ze_open (f := as) (g := pa)
      unfold zf_M_steers
      rw [zi_w_id (x := 120 + s) (by omega) (by omega)]
      have fin : ∀ (cl1 ch1 f1 : Int) (g1 S1 : Int → Int) (m1 g3 S3 : Int → Int), yk_sky t h u cl1 sc sr ch1 co ro br wc wr m1 → yk_sea ts gp gl m1 →
          ∃ p' as' vx' vy' h' u' cl' ho' f' ch' pa' g' co' ro' S' m' g2' S2', ((zf_Pilot_step p i vx vy h u t sc sr cl1 tS 0 ho nc f1 sP g1 co ro br kd hf to K S1 V gl).bind fun r11 => ((zf_Sky_passHour h u co wc ro wr).bind fun r12 => (zf_X_steered_l0 i N dr t sc sr tS nc sP br kd hf to K V gl wc wr fr n r11.1 (j + 1) r11.2.2.2.1 r11.2.1 r11.2.2.1 r12.1 r12.2.1 cl1 r11.2.2.2.2.1 r11.2.2.2.2.2.1 ch1 pa0 r11.2.2.2.2.2.2.1 r12.2.2.1 r12.2.2.2 r11.2.2.2.2.2.2.2))) = some (p', as', vx', vy', h', u', cl', ho', f', ch', pa', g', co', ro', S') ∧
            ((zf_M_steersFrom (m1 (120 + s)) i mc m1 mk g3 mh mt C S3).bind fun r3 => ((zf_M_passes (zv_up m1 (120 + s) r3.1)).bind fun r4 => (zf_M_steered_l0 s i N dr mc mk mh mt C mf n2 (j + 1) r4 r3.2.1 r3.2.2))) = some (m', g2', S2') ∧ yk_sky t h' u' cl' sc sr ch' co' ro' br wc wr m' ∧ yk_sea ts (zv_up gp s p') gl m' ∧ (0 ≤ p' ∧ p' < 288) := by
        intro cl1 ch1 f1 g1 S1 m1 g3 S3 k1 z1
        have hps : m1 (120 + s) = p := (z1.1.2.2.2.1 s s1 s2).trans hp
        obtain ⟨as', ho', a', g', S', e1, e2⟩ := yx_step (f2 := vx) (f3 := vy) (f14 := f1) (g := g1) (S := S1) (ho := ho) R k1 z1 (show 0 ≤ p by omega) (by omega) i1 i2 hti yv_ca0
        obtain ⟨g4, S4, e3⟩ := ym_steersFrom (g := g3) (S := S3) R k1 z1 (show 0 ≤ p by omega) (by omega) i1 i2 hti
        have ri := (k1.2.2.2.2.2.2.2 i i1 i2).1.2.1
        have hin : 0 ≤ (if yv_see L tS h u cl1 sc sr co ro br (p % 24) (p / 24) i = true then yg_st gl p (yg_tr (p % 24) (yv_st h co i)) (ro i - p / 24) else p) ∧ (if yv_see L tS h u cl1 sc sr co ro br (p % 24) (p / 24) i = true then yg_st gl p (yg_tr (p % 24) (yv_st h co i)) (ro i - p / 24) else p) < 288 := by
          split
          · exact yg_st_in (by omega) (by omega) (by omega) (by omega)
          · omega
        rw [hps, e1, e3, zl_b, zl_b]
        generalize hQ : (if yv_see L tS h u cl1 sc sr co ro br (p % 24) (p / 24) i = true then yg_st gl p (yg_tr (p % 24) (yv_st h co i)) (ro i - p / 24) else p) = Q at hin
        have k2 := yk_sky_fr k1 (m2 := zv_up m1 (120 + s) Q) fun x hx => zv_up_n (by omega)
        have z2 := yk_sea_up z1 s1 s2 hin.1 hin.2
        obtain ⟨h', u', co', ro', m', e4, e5, e6, e7⟩ := yk_pass k2
        have z3 := yk_sea_fr z2 (m2 := m') fun x hx => e7 x (by omega) (by omega) (by omega)
        rw [e4, zl_b]
        show ∃ p' as' vx' vy' h' u' cl' ho' f' ch' pa' g' co' ro' S' m' g2' S2', _ ∧ ((zf_M_passes (zv_up m1 (120 + s) Q)).bind _) = _ ∧ _
        rw [e5, zl_b]
        obtain ⟨p2, as2, vx2, vy2, h2, u2, cl2, ho2, f2, ch2, pa2, gg2, co2, ro2, SS2, m3, g5, S5, x1, x2, x3, x4, x5⟩ := ih (j + 1) Q as' (p % 24) (p / 24) h' u' cl1 ho' a' ch1 pa0 g' co' ro' S' m' g4 S4 (zv_up gp s Q) n n2 (by omega) (by omega) (by omega) (by omega) e6 z3 zv_up_s
        refine ⟨p2, as2, vx2, vy2, h2, u2, cl2, ho2, f2, ch2, pa2, gg2, co2, ro2, SS2, m3, g5, S5, x1, x2, x3, ?_, x5⟩
        have : zv_up (zv_up gp s Q) s p2 = zv_up gp s p2 := funext fun x => by
          by_cases e : x = s
          · rw [e, zv_up_s, zv_up_s]
          · rw [zv_up_n e, zv_up_n e, zv_up_n e]
        rw [← this]; exact x4
      by_cases hdr : dr = 0
      · rw [if_pos hdr, if_pos hdr, ep, zl_b, zl_ci (by omega) (by omega)]
        obtain ⟨p', as', vx', vy', h', u', cl', ho', f', ch', pa', g', co', ro', S', m', g2', S2', x1, x2, x3⟩ := fin cl ch f g S m g2 S2 k z
        refine ⟨p', as', vx', vy', h', u', cl', ho', f', ch', pa', g', co', ro', S', m', g2', S2', x1, ?_, x3⟩
        simp only [zl_bb, zl_b]
        exact x2
      · rw [if_neg hdr, if_neg hdr]
        obtain ⟨ch1, cl1, f1, g1, S1, m1, g3, S3, y1, y2, y3, y4⟩ := yk_drawn (f := f) (g := g) (S := S) (g2 := g2) (S2 := S2) R k
        rw [y1, y2, zl_b, zl_b, ep, zl_b, zl_ci (by omega) (by omega)]
        obtain ⟨p', as', vx', vy', h', u', cl', ho', f', ch', pa', g', co', ro', S', m', g2', S2', x1, x2, x3⟩ := fin cl1 ch1 f1 g1 S1 m1 g3 S3 y3 (yk_sea_fr z fun x hx => y4 x (by omega) (by omega))
        refine ⟨p', as', vx', vy', h', u', cl', ho', f', ch', pa', g', co', ro', S', m', g2', S2', x1, ?_, x3⟩
        simp only [zl_bb, zl_b]
        exact x2
    · rw [if_neg hj, if_neg hj]
      refine ⟨p, as, vx, vy, h, u, cl, ho, f, ch, pa, g, co, ro, S, m, g2, S2, rfl, rfl, k, ?_, by omega⟩
      have : zv_up gp s p = gp := funext fun x => by
        by_cases e : x = s
        · rw [e, zv_up_s, hp]
        · rw [zv_up_n e]
      rw [this]; exact z
end YSX
end
section
/-! star, walk, gone, hour, clouds, sight, seed, starIs, hours, steered, over: alike on both sides. -/
section YOP
variable {t h u cl sc sr ch : Int} {co ro br wc wr m : Int → Int}
theorem yo_star {i c r b : Int} (k : yk_sky t h u cl sc sr ch co ro br wc wr m) : ∃ a t' co' ro' br' wc' wr' m', zf_X_star i c r b t co ro br wc wr = some (a, t', co', ro', br', wc', wr') ∧ zf_M_star i c r b m = some (a, m') ∧ yk_sky t' h u cl sc sr ch co' ro' br' wc' wr' m' ∧ ∀ j, 120 ≤ j → j ≠ 126 → m' j = m j := by
  obtain ⟨⟨ht, k126⟩, ⟨hk2, k128⟩, k129, ⟨hk4, k130⟩, ⟨hk5, k131⟩, ⟨hk6, k132⟩, ⟨hk7, k133⟩, ki⟩ := id k
  unfold zf_X_star zf_M_star
  rw [ze_X_isWithin, ze_M_in, zl_b, zl_b]
  by_cases q1 : zs_in i 0 23 = 0
  · rw [if_pos q1, if_pos q1]
    exact ⟨0, t, co, ro, br, wc, wr, m, rfl, rfl, k, fun _ _ _ => rfl⟩
  rw [if_neg q1, if_neg q1, ze_X_isPlace, ze_M_isPlace, zl_b, zl_b]
  obtain ⟨i1, i2⟩ := zs_in_ne q1
  by_cases q2 : zs_pl c r = 0
  · rw [if_pos q2, if_pos q2]
    exact ⟨0, t, co, ro, br, wc, wr, m, rfl, rfl, k, fun _ _ _ => rfl⟩
  rw [if_neg q2, if_neg q2, ze_X_isWithin, ze_M_in, zl_b, zl_b]
  obtain ⟨c1, c2, c3, c4⟩ := zs_pl_ne q2
  by_cases q3 : zs_in b 1 9 = 0
  · rw [if_pos q3, if_pos q3]
    exact ⟨0, t, co, ro, br, wc, wr, m, rfl, rfl, k, fun _ _ _ => rfl⟩
  rw [if_neg q3, if_neg q3]
  obtain ⟨b1, b2⟩ := zs_in_ne q3
  rw [zi_w_id (x := 0 + i) (by omega) (by omega), zi_w_id (x := 24 + i) (by omega) (by omega), zi_w_id (x := 48 + i) (by omega) (by omega), zi_w_id (x := 72 + i) (by omega) (by omega), zi_w_id (x := 96 + i) (by omega) (by omega), Int.zero_add]
  rw [zl_ci (by omega) (by omega), zl_ci (by omega) (by omega), zl_ci (by omega) (by omega), zl_ci (by omega) (by omega), zl_ci (by omega) (by omega), zl_ci (by omega) (by omega)]
  have fr : ∀ v j, 120 ≤ j → j ≠ 126 → zv_up (zv_up (zv_up (zv_up (zv_up (zv_up m 126 v) i c) (24 + i) r) (48 + i) b) (72 + i) 0) (96 + i) 0 j = m j := fun v j j1 j2 => by
    rw [zv_up_n (by omega), zv_up_n (by omega), zv_up_n (by omega), zv_up_n (by omega), zv_up_n (by omega), zv_up_n j2]
  have f126 : ∀ v, zv_up (zv_up (zv_up (zv_up (zv_up (zv_up m 126 v) i c) (24 + i) r) (48 + i) b) (72 + i) 0) (96 + i) 0 126 = v := fun v => by
    rw [zv_up_n (by omega), zv_up_n (by omega), zv_up_n (by omega), zv_up_n (by omega), zv_up_n (by omega), zv_up_s]
  refine ⟨1, _, _, _, _, _, _, _, rfl, rfl, ⟨⟨z24_or ht (z24_shl i1 (by omega)), by rw [f126, k126]⟩, ⟨hk2, (fr _ _ (by decide) (by decide)).trans k128⟩, (fr _ _ (by decide) (by decide)).trans k129, ⟨hk4, (fr _ _ (by decide) (by decide)).trans k130⟩, ⟨hk5, (fr _ _ (by decide) (by decide)).trans k131⟩, ⟨hk6, (fr _ _ (by decide) (by decide)).trans k132⟩, ⟨hk7, (fr _ _ (by decide) (by decide)).trans k133⟩, fun j j1 j2 => ?_⟩, fr _⟩
  obtain ⟨hj1, hj2, hj3⟩ := ki j j1 j2
  unfold zv_up
  by_cases e : j = i
  · subst e
    rw [if_pos rfl, if_pos rfl, if_pos rfl, if_pos rfl, if_pos rfl]
    rw [if_neg (show ¬ j = 96 + j by omega), if_neg (show ¬ j = 72 + j by omega), if_neg (show ¬ j = 48 + j by omega), if_neg (show ¬ j = 24 + j by omega), if_pos rfl, if_neg (show ¬ 24 + j = 96 + j by omega), if_neg (show ¬ 24 + j = 72 + j by omega), if_neg (show ¬ 24 + j = 48 + j by omega), if_pos rfl, if_neg (show ¬ 48 + j = 96 + j by omega), if_neg (show ¬ 48 + j = 72 + j by omega), if_pos rfl, if_neg (show ¬ 72 + j = 96 + j by omega), if_pos rfl, if_pos rfl]
    exact ⟨⟨by omega, by omega, by omega, by omega, by omega⟩, ⟨by omega, by omega, by omega, by omega, by omega⟩, fun _ => ⟨rfl, rfl, rfl, rfl, rfl⟩⟩
  · rw [if_neg e, if_neg e, if_neg e, if_neg e, if_neg e]
    rw [if_neg (show ¬ j = 96 + i by omega), if_neg (show ¬ j = 72 + i by omega), if_neg (show ¬ j = 48 + i by omega), if_neg (show ¬ j = 24 + i by omega), if_neg e, if_neg (show ¬ j = 126 by omega)]
    rw [if_neg (show ¬ 24 + j = 96 + i by omega), if_neg (show ¬ 24 + j = 72 + i by omega), if_neg (show ¬ 24 + j = 48 + i by omega), if_neg (show ¬ 24 + j = 24 + i by omega), if_neg (show ¬ 24 + j = i by omega), if_neg (show ¬ 24 + j = 126 by omega)]
    rw [if_neg (show ¬ 48 + j = 96 + i by omega), if_neg (show ¬ 48 + j = 72 + i by omega), if_neg (show ¬ 48 + j = 48 + i by omega), if_neg (show ¬ 48 + j = 24 + i by omega), if_neg (show ¬ 48 + j = i by omega), if_neg (show ¬ 48 + j = 126 by omega)]
    rw [if_neg (show ¬ 72 + j = 96 + i by omega), if_neg (show ¬ 72 + j = 72 + i by omega), if_neg (show ¬ 72 + j = 48 + i by omega), if_neg (show ¬ 72 + j = 24 + i by omega), if_neg (show ¬ 72 + j = i by omega), if_neg (show ¬ 72 + j = 126 by omega)]
    rw [if_neg (show ¬ 96 + j = 96 + i by omega), if_neg (show ¬ 96 + j = 72 + i by omega), if_neg (show ¬ 96 + j = 48 + i by omega), if_neg (show ¬ 96 + j = 24 + i by omega), if_neg (show ¬ 96 + j = i by omega), if_neg (show ¬ 96 + j = 126 by omega)]
    refine ⟨hj1, hj2, fun hb => hj3 ?_⟩
    rw [zb_or, zb_shl i1 (by omega), decide_eq_false (by omega), Bool.or_false] at hb
    exact hb
theorem yo_gone {i : Int} (k : yk_sky t h u cl sc sr ch co ro br wc wr m) : ∃ a t' m', zf_X_gone i t = some (a, t') ∧ zf_M_gone i m = some (a, m') ∧ yk_sky t' h u cl sc sr ch co ro br wc wr m' ∧ ∀ j, j ≠ 126 → m' j = m j := by
  obtain ⟨⟨ht, k126⟩, ⟨hk2, k128⟩, k129, ⟨hk4, k130⟩, ⟨hk5, k131⟩, ⟨hk6, k132⟩, ⟨hk7, k133⟩, ki⟩ := id k
  have tin : 0 ≤ t ∧ t ≤ 2147483647 := ⟨ht.1, by have := ht.2; omega⟩
  unfold zf_X_gone zf_M_gone
  rw [ze_Sky_hasStar tin.1 tin.2, ze_M_isTold (by rw [k126]; exact tin.1) (by rw [k126]; exact tin.2), k126, zl_b, zl_b]
  by_cases q : zs_has 24 t i = 0
  · rw [if_pos q, if_pos q]
    exact ⟨0, t, m, rfl, rfl, k, fun _ _ => rfl⟩
  · rw [if_neg q, if_neg q]
    obtain ⟨i1, i2, -⟩ := zs_has_ne q
    refine ⟨1, _, _, rfl, rfl, ⟨⟨z24_and ht, zv_up_s⟩, ⟨hk2, by rw [zv_up_n (by decide)]; exact k128⟩, by rw [zv_up_n (by decide)]; exact k129, ⟨hk4, by rw [zv_up_n (by decide)]; exact k130⟩, ⟨hk5, by rw [zv_up_n (by decide)]; exact k131⟩, ⟨hk6, by rw [zv_up_n (by decide)]; exact k132⟩, ⟨hk7, by rw [zv_up_n (by decide)]; exact k133⟩, fun j j1 j2 => ?_⟩, fun j hj => zv_up_n hj⟩
    obtain ⟨hj1, hj2, hj3⟩ := ki j j1 j2
    rw [zv_up_n (by omega), zv_up_n (by omega), zv_up_n (by omega), zv_up_n (by omega), zv_up_n (by omega)]
    refine ⟨hj1, hj2, fun hb => hj3 ?_⟩
    rw [zb_and, Bool.and_eq_true] at hb
    exact hb.1
theorem yo_walk {i c r : Int} (k : yk_sky t h u cl sc sr ch co ro br wc wr m) : ∃ a wc' wr' m', zf_X_walk i c r t wc wr = some (a, wc', wr') ∧ zf_M_walk i c r m = some (a, m') ∧ yk_sky t h u cl sc sr ch co ro br wc' wr' m' ∧ ∀ j, 120 ≤ j → m' j = m j := by
  obtain ⟨⟨ht, k126⟩, ⟨hk2, k128⟩, k129, ⟨hk4, k130⟩, ⟨hk5, k131⟩, ⟨hk6, k132⟩, ⟨hk7, k133⟩, ki⟩ := id k
  have tin : 0 ≤ t ∧ t ≤ 2147483647 := ⟨ht.1, by have := ht.2; omega⟩
  unfold zf_X_walk zf_M_walk
  rw [ze_Sky_hasStar tin.1 tin.2, ze_M_isTold (by rw [k126]; exact tin.1) (by rw [k126]; exact tin.2), k126, zl_b, zl_b]
  by_cases q : zs_has 24 t i = 0
  · rw [if_pos q, if_pos q]
    exact ⟨0, wc, wr, m, rfl, rfl, k, fun _ _ => rfl⟩
  rw [if_neg q, if_neg q, ze_X_isWithin, ze_M_in, zl_b, zl_b]
  obtain ⟨i1, i2, -⟩ := zs_has_ne q
  by_cases q2 : zs_in c (-3) 3 = 0
  · rw [if_pos q2, if_pos q2]
    exact ⟨0, wc, wr, m, rfl, rfl, k, fun _ _ => rfl⟩
  rw [if_neg q2, if_neg q2, ze_X_isWithin, ze_M_in, zl_b, zl_b]
  obtain ⟨c1, c2⟩ := zs_in_ne q2
  by_cases q3 : zs_in r (-3) 3 = 0
  · rw [if_pos q3, if_pos q3]
    exact ⟨0, wc, wr, m, rfl, rfl, k, fun _ _ => rfl⟩
  rw [if_neg q3, if_neg q3]
  obtain ⟨r1, r2⟩ := zs_in_ne q3
  rw [zi_w_id (x := 72 + i) (by omega) (by omega), zi_w_id (x := 96 + i) (by omega) (by omega), zl_ci i1 (by omega), zl_ci (by omega) (by omega), zl_ci (by omega) (by omega)]
  have fr : ∀ j, j ≠ 72 + i → j ≠ 96 + i → zv_up (zv_up m (72 + i) c) (96 + i) r j = m j := fun j j1 j2 => by rw [zv_up_n j2, zv_up_n j1]
  refine ⟨1, _, _, _, rfl, rfl, ⟨⟨ht, (fr _ (by omega) (by omega)).trans k126⟩, ⟨hk2, (fr _ (by omega) (by omega)).trans k128⟩, (fr _ (by omega) (by omega)).trans k129, ⟨hk4, (fr _ (by omega) (by omega)).trans k130⟩, ⟨hk5, (fr _ (by omega) (by omega)).trans k131⟩, ⟨hk6, (fr _ (by omega) (by omega)).trans k132⟩, ⟨hk7, (fr _ (by omega) (by omega)).trans k133⟩, fun j j1 j2 => ?_⟩, fun j hj => fr j (by omega) (by omega)⟩
  obtain ⟨hj1, hj2, hj3⟩ := ki j j1 j2
  rw [fr j (by omega) (by omega), fr (24 + j) (by omega) (by omega), fr (48 + j) (by omega) (by omega)]
  by_cases e : j = i
  · subst e
    rw [zv_up_n (show 72 + j ≠ 96 + j by omega), zv_up_s, zv_up_s, zv_up_s, zv_up_s]
    obtain ⟨a1, a2, a3, -, -⟩ := hj1
    obtain ⟨b1, b2, b3, -, -⟩ := hj2
    exact ⟨⟨a1, a2, a3, ⟨c1, c2⟩, ⟨r1, r2⟩⟩, ⟨b1, b2, b3, ⟨c1, c2⟩, ⟨r1, r2⟩⟩, fun hb => ⟨(hj3 hb).1, (hj3 hb).2.1, (hj3 hb).2.2.1, rfl, rfl⟩⟩
  · rw [fr (72 + j) (by omega) (by omega), fr (96 + j) (by omega) (by omega), zv_up_n e, zv_up_n e]
    exact ⟨hj1, hj2, hj3⟩
theorem yo_hour {n : Int} (k : yk_sky t h u cl sc sr ch co ro br wc wr m) : ∃ a h' m', zf_X_hour n h = some (a, h') ∧ zf_M_hour n m = some (a, m') ∧ yk_sky t h' u cl sc sr ch co ro br wc wr m' ∧ ∀ j, j ≠ 128 → m' j = m j := by
  unfold zf_X_hour zf_M_hour
  rw [ze_X_isWithin, ze_M_in, zl_b, zl_b]
  by_cases q : zs_in n 0 23 = 0
  · rw [if_pos q, if_pos q]
    exact ⟨0, h, m, rfl, rfl, k, fun _ _ => rfl⟩
  · rw [if_neg q, if_neg q]
    obtain ⟨n1, n2⟩ := zs_in_ne q
    refine ⟨1, n, _, rfl, rfl, yk_hour k n1 n2 zv_up_s (by rw [zv_up_n (by decide)]; exact k.2.2.1) (fun j j1 _ => zv_up_n j1), fun j hj => zv_up_n hj⟩
theorem yo_clouds {n : Int} (k : yk_sky t h u cl sc sr ch co ro br wc wr m) : ∃ a c' m', zf_X_clouds n cl = some (a, c') ∧ zf_M_clouds n m = some (a, m') ∧ yk_sky t h u c' sc sr ch co ro br wc wr m' ∧ ∀ j, j ≠ 130 → m' j = m j := by
  unfold zf_X_clouds zf_M_clouds
  rw [ze_X_isWithin, ze_M_in, zl_b, zl_b]
  by_cases q : zs_in n 0 16777215 = 0
  · rw [if_pos q, if_pos q]
    exact ⟨0, cl, m, rfl, rfl, k, fun _ _ => rfl⟩
  · rw [if_neg q, if_neg q]
    obtain ⟨n1, n2⟩ := zs_in_ne q
    have k7 := k.2.2.2.2.2.2.1
    exact ⟨1, n, _, rfl, rfl, yk_cl2 k ⟨n1, n2⟩ k7.1.1 k7.1.2 zv_up_s (by rw [zv_up_n (by decide)]; exact k7.2) (fun j j1 _ => zv_up_n j1), fun j hj => zv_up_n hj⟩
theorem yo_seed {n : Int} (k : yk_sky t h u cl sc sr ch co ro br wc wr m) : ∃ a c' m', zf_X_seed n ch = some (a, c') ∧ zf_M_seed n m = some (a, m') ∧ yk_sky t h u cl sc sr c' co ro br wc wr m' ∧ ∀ j, j ≠ 133 → m' j = m j := by
  unfold zf_X_seed zf_M_seed
  rw [ze_X_isWithin, ze_M_in, zl_b, zl_b]
  by_cases q : zs_in n 0 65535 = 0
  · rw [if_pos q, if_pos q]
    exact ⟨0, ch, m, rfl, rfl, k, fun _ _ => rfl⟩
  · rw [if_neg q, if_neg q]
    obtain ⟨n1, n2⟩ := zs_in_ne q
    have k4 := k.2.2.2.1
    exact ⟨1, n, _, rfl, rfl, yk_cl2 k k4.1 n1 n2 (by rw [zv_up_n (by decide)]; exact k4.2) zv_up_s (fun j _ j1 => zv_up_n j1), fun j hj => zv_up_n hj⟩
theorem yo_sight {n n2 : Int} (k : yk_sky t h u cl sc sr ch co ro br wc wr m) : ∃ a v w m', zf_X_sight n n2 sc sr = some (a, v, w) ∧ zf_M_sight n n2 m = some (a, m') ∧ yk_sky t h u cl v w ch co ro br wc wr m' ∧ ∀ j, j ≠ 131 → j ≠ 132 → m' j = m j := by
  unfold zf_X_sight zf_M_sight
  rw [ze_X_isWithin, ze_M_in, zl_b, zl_b]
  by_cases q : zs_in n 0 11 = 0
  · rw [if_pos q, if_pos q]
    exact ⟨0, sc, sr, m, rfl, rfl, k, fun _ _ _ => rfl⟩
  rw [if_neg q, if_neg q, ze_X_isWithin, ze_M_in, zl_b, zl_b]
  by_cases q2 : zs_in n2 0 11 = 0
  · rw [if_pos q2, if_pos q2]
    exact ⟨0, sc, sr, m, rfl, rfl, k, fun _ _ _ => rfl⟩
  rw [if_neg q2, if_neg q2]
  obtain ⟨a1, a2⟩ := zs_in_ne q
  obtain ⟨b1, b2⟩ := zs_in_ne q2
  obtain ⟨⟨ht, k126⟩, ⟨hk2, k128⟩, k129, ⟨hk4, k130⟩, ⟨hk5, k131⟩, ⟨hk6, k132⟩, ⟨hk7, k133⟩, ki⟩ := id k
  have fr : ∀ j, j ≠ 131 → j ≠ 132 → zv_up (zv_up m 131 n) 132 n2 j = m j := fun j j1 j2 => by rw [zv_up_n j2, zv_up_n j1]
  refine ⟨1, n, n2, _, rfl, rfl, ⟨⟨ht, (fr _ (by decide) (by decide)).trans k126⟩, ⟨hk2, (fr _ (by decide) (by decide)).trans k128⟩, (fr _ (by decide) (by decide)).trans k129, ⟨hk4, (fr _ (by decide) (by decide)).trans k130⟩, ⟨⟨a1, a2⟩, rfl⟩, ⟨⟨b1, b2⟩, rfl⟩, ⟨hk7, (fr _ (by decide) (by decide)).trans k133⟩, fun j j1 j2 => ?_⟩, fr⟩
  rw [fr j (by omega) (by omega), fr (24 + j) (by omega) (by omega), fr (48 + j) (by omega) (by omega), fr (72 + j) (by omega) (by omega), fr (96 + j) (by omega) (by omega)]
  exact ki j j1 j2
theorem yo_starIs {i w : Int} (k : yk_sky t h u cl sc sr ch co ro br wc wr m) : ∃ a, zf_X_starIs i w t h co ro br wc wr = some a ∧ zf_M_starIs i w m = some a := by
  obtain ⟨⟨ht, k126⟩, ⟨⟨h1, h2⟩, k128⟩, k129, -, -, -, -, ki⟩ := k
  have tin : 0 ≤ t ∧ t ≤ 2147483647 := ⟨ht.1, by have := ht.2; omega⟩
  unfold zf_X_starIs zf_M_starIs
  rw [ze_Sky_hasStar tin.1 tin.2, ze_M_isTold (by rw [k126]; exact tin.1) (by rw [k126]; exact tin.2), k126, zl_b, zl_b]
  by_cases q : zs_has 24 t i = 0
  · rw [if_pos q, if_pos q]; exact ⟨-1, rfl, rfl⟩
  rw [if_neg q, if_neg q]
  obtain ⟨i1, i2, hb⟩ := zs_has_ne q
  rw [zb_tb2 tin.1 tin.2] at hb
  obtain ⟨⟨⟨c1, c2⟩, -⟩, -, e⟩ := ki i i1 i2
  obtain ⟨a1, a2, a3, a4, a5⟩ := e hb
  rw [zi_w_id (x := 0 + i) (by omega) (by omega), zi_w_id (x := 24 + i) (by omega) (by omega), zi_w_id (x := 48 + i) (by omega) (by omega), zi_w_id (x := 72 + i) (by omega) (by omega), zi_w_id (x := 96 + i) (by omega) (by omega), show 0 + i = i by omega, a1, a2, a3, a4, a5]
  rw [ze_Sky_standing i1 i2 c1 c2 h1 h2, ze_M_standsAt i1 i2 (by omega) (by omega) (by omega) (by omega), a1, k128]
  rw [show zi_ix i 24 = true from zi_ix_of i1 (by omega), show zi_ix i 422 = true from zi_ix_of i1 (by omega), show zi_ix (24 + i) 422 = true from zi_ix_of (by omega) (by omega), show zi_ix (48 + i) 422 = true from zi_ix_of (by omega) (by omega), show zi_ix (72 + i) 422 = true from zi_ix_of (by omega) (by omega), show zi_ix (96 + i) 422 = true from zi_ix_of (by omega) (by omega)]
  repeat' split
  all_goals exact ⟨_, rfl, rfl⟩
theorem yo_hours_l {N : Int} (hN : N ≤ 240) : ∀ (d : Nat) (j h u : Int) (co ro m : Int → Int) (n n2 : Nat), N - j ≤ d → 0 ≤ j → d < n → d < n2 → yk_sky t h u cl sc sr ch co ro br wc wr m →
    ∃ h' u' co' ro' m', zf_X_hours_l0 N wc wr n j h u co ro = some (h', u', co', ro') ∧ zf_M_hours_l0 N n2 j m = some m' ∧ yk_sky t h' u' cl sc sr ch co' ro' br wc wr m' ∧ ∀ x, 48 ≤ x → x ≠ 128 → x ≠ 129 → m' x = m x := by
  intro d
  induction d with
  | zero =>
    intro j h u co ro m n n2 hd j0 hn hn2 k
    obtain ⟨n, rfl⟩ : ∃ q, n = q + 1 := ⟨n - 1, by omega⟩
    obtain ⟨n2, rfl⟩ : ∃ q, n2 = q + 1 := ⟨n2 - 1, by omega⟩
    refine ⟨h, u, co, ro, m, ?_, ?_, k, fun _ _ _ _ => rfl⟩
    · show zf_X_hours_l0_b N wc wr (zf_X_hours_l0 N wc wr n) j h u co ro = _
      unfold zf_X_hours_l0_b
      rw [if_neg (by omega)]
    · show zf_M_hours_l0_b N (zf_M_hours_l0 N n2) j m = _
      unfold zf_M_hours_l0_b
      rw [if_neg (by omega)]
  | succ d ih =>
    intro j h u co ro m n n2 hd j0 hn hn2 k
    obtain ⟨n, rfl⟩ : ∃ q, n = q + 1 := ⟨n - 1, by omega⟩
    obtain ⟨n2, rfl⟩ : ∃ q, n2 = q + 1 := ⟨n2 - 1, by omega⟩
    show ∃ h' u' co' ro' m', zf_X_hours_l0_b N wc wr (zf_X_hours_l0 N wc wr n) j h u co ro = _ ∧ zf_M_hours_l0_b N (zf_M_hours_l0 N n2) j m = _ ∧ _
    unfold zf_X_hours_l0_b zf_M_hours_l0_b
    by_cases hj : j < N
    · obtain ⟨h1, u1, co1, ro1, m1, e1, e2, e3, e4⟩ := yk_pass k
      rw [if_pos hj, if_pos hj, e1, zl_b, e2, zl_b, zi_w_id (x := j + 1) (by omega) (by omega)]
      obtain ⟨h', u', co', ro', m', x1, x2, x3, x4⟩ := ih (j + 1) h1 u1 co1 ro1 m1 n n2 (by omega) (by omega) (by omega) (by omega) e3
      exact ⟨h', u', co', ro', m', x1, x2, x3, fun x a b c => (x4 x a b c).trans (e4 x a b c)⟩
    · rw [if_neg hj, if_neg hj]
      exact ⟨_, _, _, _, _, rfl, rfl, k, fun _ _ _ _ => rfl⟩
theorem yo_hours {N : Int} (k : yk_sky t h u cl sc sr ch co ro br wc wr m) : ∃ a h' u' co' ro' m', zf_X_hours N h u co wc ro wr = some (a, h', u', co', ro') ∧ zf_M_hours N m = some (a, m') ∧ yk_sky t h' u' cl sc sr ch co' ro' br wc wr m' ∧ ∀ x, 48 ≤ x → x ≠ 128 → x ≠ 129 → m' x = m x := by
  unfold zf_X_hours zf_M_hours
  rw [ze_X_isWithin, ze_M_in, zl_b, zl_b]
  by_cases q : zs_in N 1 240 = 0
  · rw [if_pos q, if_pos q]
    exact ⟨-1, h, u, co, ro, m, rfl, rfl, k, fun _ _ _ _ => rfl⟩
  · obtain ⟨n1, n2⟩ := zs_in_ne q
    obtain ⟨h', u', co', ro', m', e1, e2, e3, e4⟩ := yo_hours_l n2 240 0 h u co ro m zi_fu zi_fu (by omega) (by decide) (by decide) (by decide) k
    rw [if_neg q, if_neg q, e1, zl_b, e2, zl_b]
    exact ⟨u', h', u', co', ro', m', rfl, by rw [e3.2.2.1], e3, e4⟩
end YOP
end
section
/-! ship, land, seen, line, over, steered: alike on both sides. -/
section YOQ
variable {L : zLW} {K V kd fr hf to C mk mf mh mt : Int → Int} {nc tS tL sP lP mc : Int} {t h u cl sc sr ch ts : Int} {co ro br wc wr m gp gl : Int → Int}
theorem yo_ship {s x y : Int} (z : yk_sea ts gp gl m) : ∃ a t' gp' m', zf_X_ship s x y ts gl gp = some (a, t', gp') ∧ zf_M_ship s x y m = some (a, m') ∧ yk_sea t' gp' gl m' ∧ ∀ j, (j < 120 ∨ j = 126 ∨ 128 ≤ j) → m' j = m j := by
  obtain ⟨hz, hb⟩ := id z
  obtain ⟨t1, t2, e, hs, hr, hl⟩ := id hz
  unfold zf_X_ship zf_M_ship
  rw [ze_X_isWithin, ze_M_in, zl_b, zl_b]
  by_cases hi : zs_in s 0 5 = 0
  · rw [if_pos hi, if_pos hi]
    exact ⟨0, ts, gp, m, rfl, rfl, z, fun _ _ => rfl⟩
  rw [if_neg hi, if_neg hi]
  obtain ⟨s1, s2⟩ := zs_in_ne hi
  rw [ze_X_isPlace, ze_M_isPlace, zl_b, zl_b]
  by_cases hp : zs_pl x y = 0
  · rw [if_pos hp, if_pos hp]
    exact ⟨0, ts, gp, m, rfl, rfl, z, fun _ _ => rfl⟩
  rw [if_neg hp, if_neg hp]
  obtain ⟨x1, x2, y1, y2⟩ := zs_pl_ne hp
  rw [ze_X_placeOf x1 x2 y1 y2, zl_b, zl_b, zi_w_id (x := 24 * y) (by omega) (by omega), zi_w_id (x := 24 * y + x) (by omega) (by omega), zl_is hz (by omega) (by omega), ze_Sea_isLand (by omega) (by omega) hr, zl_b, zl_b]
  by_cases c : zi_tb (gl ((24 * y + x) / 24)) ((24 * y + x) % 24) = true
  · rw [if_pos c, if_neg (by decide), if_neg (by decide)]
    exact ⟨0, ts, gp, m, rfl, rfl, z, fun _ _ => rfl⟩
  rw [if_neg c, if_pos rfl, if_pos rfl, zi_w_id (x := 120 + s) (by omega) (by omega), zl_c (zi_ix_of (by omega) (by omega)), zl_c (zi_ix_of (by omega) (by omega))]
  obtain ⟨o1, o2⟩ := zl_or_in t1 t2 s1 (by omega : s < 6)
  refine ⟨1, _, _, _, rfl, rfl, ⟨⟨o1, o2, ?_, ?_, hr, ?_⟩, ?_⟩, ?_⟩
  · rw [zv_up_n (by omega), zv_up_s, e]
  · intro k k1 k2
    by_cases ek : k = s
    · subst ek; rw [zv_up_s, zv_up_s]
    · rw [zv_up_n (by omega), zv_up_n (by omega), zv_up_n ek]; exact hs k k1 k2
  · intro x' y' a1 a2 b1 b2
    rw [zv_up_n (by omega), zv_up_n (by omega)]; exact hl x' y' a1 a2 b1 b2
  · intro k k1 k2
    by_cases ek : k = s
    · subst ek; rw [zv_up_s]; omega
    · rw [zv_up_n ek]; exact hb k k1 k2
  · intro j hj
    rw [zv_up_n (by omega), zv_up_n (by omega)]
theorem yo_land {x y b : Int} (z : yk_sea ts gp gl m) : ∃ a gl' m', zf_X_land x y b ts gp gl = some (a, gl') ∧ zf_M_land x y b m = some (a, m') ∧ yk_sea ts gp gl' m' ∧ ∀ j, j < 134 → m' j = m j := by
  obtain ⟨a, gl', m', e1, e2, e3, e4⟩ := zl_land (x := x) (y := y) (b := b) z.1
  exact ⟨a, gl', m', e1, e2, ⟨e3, z.2⟩, e4⟩
theorem yo_seen (R : yl_R L K V nc tS tL sP lP kd fr hf to mc C mk mf mh mt) (k : yk_sky t h u cl sc sr ch co ro br wc wr m) {x y f3 f4 f5 f8 f14 f16 : Int} {g0 g1 g9 g2 g6 : Int → Int} :
    ∃ a f3' f4' f5' f8' f14' f16' g0' g1' g9' g2' g6', zf_X_seen x y f3 f4 f5 h u f8 t sc sr cl tS f14 nc f16 sP g0 g1 co ro br kd hf to K g9 V = some (a, f3', f4', f5', f8', f14', f16', g0', g1', g9') ∧ zf_M_seen x y mc m mk g2 mh mt C g6 = some (a, g2', g6') := by
  unfold zf_X_seen zf_M_seen
  rw [ze_X_isPlace, ze_M_isPlace, zl_b, zl_b]
  by_cases q : zs_pl x y = 0
  · rw [if_pos q, if_pos q]
    exact ⟨-1, f3, f4, f5, f8, f14, f16, g0, g1, g9, g2, g6, rfl, rfl⟩
  rw [if_neg q, if_neg q]
  obtain ⟨x1, x2, y1, y2⟩ := zs_pl_ne q
  obtain ⟨g0', e0, -⟩ := ze_open (f := f3) (g := g0)
  rw [e0, zl_b]
  dsimp only
  obtain ⟨s', as', ho', a', g', S', e1, i1, -⟩ := yx_look (f2 := f4) (f3 := f5) (f6 := f8) (f := f16) (g := g1) (S := g9) R k x1 (by omega) y1 (by omega) (yv_ca0 (ho := f14))
  obtain ⟨s2, g2', g6', e2, i2⟩ := ym_seenFrom (g := g2) (S := g6) R k x1 (by omega) y1 (by omega)
  rw [e1, zl_b, zi_w_id (x := 24 * y) (by omega) (by omega), zi_w_id (x := 24 * y + x) (by omega) (by omega), e2, zl_b]
  have es := yv_is_eq i1 i2
  subst es
  exact ⟨_, _, _, _, _, _, _, _, _, _, _, _, rfl, rfl⟩
theorem yv_cp0 {pa ph : Int → Int} (h0 : ∀ i, 0 ≤ i → i < 24 → pa i = 0) : yv_cp L lP h u co ro br pa ph := fun a b ha hb hq => by
  rw [h0 a (by omega) (by omega), zb_0] at hq
  cases hq
theorem yx_lad (R : yl_R L K V nc tS tL sP lP kd fr hf to mc C mk mf mh mt) (k : yk_sky t h u cl sc sr ch co ro br wc wr m) {x y f3 f4 f5 f8 f14 f16 : Int} {g0 g1 g9 g11 g12 : Int → Int} (x1 : 0 ≤ x) (x2 : x ≤ 23) (y1 : 0 ≤ y) (y2 : y ≤ 11) :
    ∃ f3' s' f14' f16' g0' g1' g9' J g12', zf_X_lookAndDraw x y f3 f4 f5 h u f8 t sc sr cl tS f14 nc f16 sP tL lP g0 g1 co ro br kd hf to K g9 V g11 g12 = some (f3', x, y, s', f14', f16', g0', g1', g9', J, g12') ∧ yv_is L tS t h u cl sc sr co ro br x y s' ∧ yv_il s' (yv_D L h u co ro br x y) J := by
  unfold zf_X_lookAndDraw
  obtain ⟨g0', e0, h0⟩ := ze_open (f := f3) (g := g0)
  rw [e0, zl_b]
  dsimp only
  obtain ⟨s', as', ho', a', g', S', e1, i1, -⟩ := yx_look (f2 := f4) (f3 := f5) (f6 := f8) (f := f16) (g := g1) (S := g9) R k x1 x2 y1 y2 (yv_ca0 (ho := f14))
  rw [e1, zl_b]
  dsimp only
  obtain ⟨f', J', g2, pa', ph', S2, e2, i2, -⟩ := yx_draw (s := s') (f := a') (J := g11) (g := g') (ph := g12) (S := S') (x := x) (y := y) R k (yv_cp0 h0)
  rw [e2, zl_b]
  exact ⟨_, _, _, _, _, _, _, _, _, rfl, i1, i2⟩
theorem yo_line (R : yl_R L K V nc tS tL sP lP kd fr hf to mc C mk mf mh mt) (k : yk_sky t h u cl sc sr ch co ro br wc wr m) {x y a b f4 f5 f6 f9 f14 f16 f1 : Int} {g0 g1 g9 g11 g12 g2 g6 g7 : Int → Int} :
    ∃ r f4' f5' f6' f9' f14' f16' g0' g1' g9' g11' g12' f1' g2' g6' g7', zf_X_line x y a b t f4 f5 f6 h u f9 sc sr cl tS f14 nc f16 sP tL lP g0 g1 co ro br kd hf to K g9 V g11 g12 = some (r, f4', f5', f6', f9', f14', f16', g0', g1', g9', g11', g12') ∧ zf_M_line x y a b mc f1 m mk g2 mh mt C g6 g7 = some (r, f1', g2', g6', g7') := by
  obtain ⟨⟨ht, k126⟩, -⟩ := id k
  have tin : 0 ≤ t ∧ t ≤ 2147483647 := ⟨ht.1, by have := ht.2; omega⟩
  unfold zf_X_line zf_M_line
  rw [ze_X_isPlace, ze_M_isPlace, zl_b, zl_b]
  by_cases q : zs_pl x y = 0
  · rw [if_pos q, if_pos q]
    exact ⟨-1, f4, f5, f6, f9, f14, f16, g0, g1, g9, g11, g12, f1, g2, g6, g7, rfl, rfl⟩
  rw [if_neg q, if_neg q, ze_Sky_hasStar tin.1 tin.2, ze_M_isTold (by rw [k126]; exact tin.1) (by rw [k126]; exact tin.2), k126, zl_b, zl_b]
  obtain ⟨x1, x2, y1, y2⟩ := zs_pl_ne q
  by_cases qa : zs_has 24 t a = 0
  · rw [if_pos qa, if_pos qa]
    exact ⟨-1, f4, f5, f6, f9, f14, f16, g0, g1, g9, g11, g12, f1, g2, g6, g7, rfl, rfl⟩
  rw [if_neg qa, if_neg qa, ze_Sky_hasStar tin.1 tin.2, ze_M_isTold (by rw [k126]; exact tin.1) (by rw [k126]; exact tin.2), k126, zl_b, zl_b]
  by_cases qb : zs_has 24 t b = 0
  · rw [if_pos qb, if_pos qb]
    exact ⟨-1, f4, f5, f6, f9, f14, f16, g0, g1, g9, g11, g12, f1, g2, g6, g7, rfl, rfl⟩
  rw [if_neg qb, if_neg qb]
  by_cases qe : a = b
  · rw [if_pos qe, if_pos qe]
    exact ⟨-1, f4, f5, f6, f9, f14, f16, g0, g1, g9, g11, g12, f1, g2, g6, g7, rfl, rfl⟩
  rw [if_neg qe, if_neg qe]
  obtain ⟨a1, a2, -⟩ := zs_has_ne qa
  obtain ⟨b1, b2, -⟩ := zs_has_ne qb
  obtain ⟨f3', s', f14', f16', g0', g1', g9', J, g12', e1, i1, l1⟩ := yx_lad (f3 := f4) (f4 := f5) (f5 := f6) (f8 := f9) (f14 := f14) (f16 := f16) (g0 := g0) (g1 := g1) (g9 := g9) (g11 := g11) (g12 := g12) R k x1 (by omega : x ≤ 23) y1 (by omega : y ≤ 11)
  obtain ⟨s2, g2', g6', J2, e2, i2, l2⟩ := ym_looks (f1 := f1) (g := g2) (S := g6) (J := g7) R k x1 (by omega) y1 (by omega)
  rw [e1, zl_b, zi_w_id (x := 24 * y) (by omega) (by omega), zi_w_id (x := 24 * y + x) (by omega) (by omega), e2, zl_b, zl_c (zi_ix_of a1 a2), zl_c (zi_ix_of a1 a2)]
  have es := yv_is_eq i1 i2
  subst es
  have ej : J a = J2 a := yv_il_eq l1 l2 a a1 a2
  dsimp only
  rw [← ej]
  have hz : z24 (J a) := by
    have := (l1 a.toNat (by omega)).1
    rwa [Int.toNat_of_nonneg a1] at this
  have ⟨c1, c2⟩ := zs_b01 (t := J a) (i := b) hz.1 (by have := hz.2; omega) b1 (by omega)
  have hm : zf_M_has (J a) b = some (if zi_tb (J a) b = true then 1 else 0) := by
    rw [ze_M_has hz.1 (by have := hz.2; omega) b1 (by omega)]
  rw [hm, zl_b]
  by_cases d : zi_tb (J a) b = true
  · rw [if_pos d, if_neg (by decide), c1 d]
    exact ⟨_, _, _, _, _, _, _, _, _, _, _, _, _, _, _, _, rfl, rfl⟩
  · rw [if_neg d, if_pos rfl, c2 d]
    exact ⟨_, _, _, _, _, _, _, _, _, _, _, _, _, _, _, _, rfl, rfl⟩
theorem yo_steered (R : yl_R L K V nc tS tL sP lP kd fr hf to mc C mk mf mh mt) (k : yk_sky t h u cl sc sr ch co ro br wc wr m) (z : yk_sea ts gp gl m) {s i N dr f5 f6 f7 f8 f9 f14 f16 : Int} {g1 g2 g10 S2 mS : Int → Int} :
    ∃ r f5' f6' f7' h' u' cl' f14' f16' ch' gp' g1' g2' co' ro' g10' m' S2' mS', zf_X_steered s i N dr ts t f5 f6 f7 h u sc sr cl tS f14 nc f16 sP ch gp g1 g2 co ro br kd hf to K g10 V gl wc wr fr = some (r, f5', f6', f7', h', u', cl', f14', f16', ch', gp', g1', g2', co', ro', g10') ∧
      zf_M_steered s i N dr mc m mk S2 mh mt C mS mf = some (r, m', S2', mS') ∧ yk_sky t h' u' cl' sc sr ch' co' ro' br wc wr m' ∧ yk_sea ts gp' gl m' := by
  obtain ⟨⟨ht, k126⟩, -⟩ := id k
  obtain ⟨⟨t1, t2, e127, -⟩, hb⟩ := id z
  have tin : 0 ≤ t ∧ t ≤ 2147483647 := ⟨ht.1, by have := ht.2; omega⟩
  unfold zf_X_steered zf_M_steered
  rw [ze_Sea_hasShip t1 (by omega), ze_M_isShip (by omega) (by omega), e127, zl_b, zl_b]
  by_cases q1 : zs_has 6 ts s = 0
  · rw [if_pos q1, if_pos q1]
    exact ⟨-1, f5, f6, f7, h, u, cl, f14, f16, ch, gp, g1, g2, co, ro, g10, m, S2, mS, rfl, rfl, k, z⟩
  rw [if_neg q1, if_neg q1, ze_Sky_hasStar tin.1 tin.2, ze_M_isTold (by rw [k126]; exact tin.1) (by rw [k126]; exact tin.2), k126, zl_b, zl_b]
  obtain ⟨s1, s2, -⟩ := zs_has_ne q1
  by_cases q2 : zs_has 24 t i = 0
  · rw [if_pos q2, if_pos q2]
    exact ⟨-1, f5, f6, f7, h, u, cl, f14, f16, ch, gp, g1, g2, co, ro, g10, m, S2, mS, rfl, rfl, k, z⟩
  rw [if_neg q2, if_neg q2, ze_X_isWithin, ze_M_in, zl_b, zl_b]
  obtain ⟨i1, i2, -⟩ := zs_has_ne q2
  by_cases q3 : zs_in N 1 48 = 0
  · rw [if_pos q3, if_pos q3]
    exact ⟨-1, f5, f6, f7, h, u, cl, f14, f16, ch, gp, g1, g2, co, ro, g10, m, S2, mS, rfl, rfl, k, z⟩
  rw [if_neg q3, if_neg q3, zl_c (zi_ix_of s1 s2)]
  obtain ⟨N1, N2⟩ := zs_in_ne q3
  have hti : zb t i.toNat = true := by
    by_cases hh : zb t i.toNat = true
    · exact hh
    · exact absurd (zs_has0 tin.1 tin.2 hh) q2
  obtain ⟨p', as', vx', vy', h', u', cl', ho', f', ch', pa', g', co', ro', S', m', g2', S2', e1, e2, k2, z2, -⟩ := yk_steered_l R (dr := dr) (N := N) N2 s1 s2 i1 i2 hti 48 0 (gp s) f5 f6 f7 h u cl f14 f16 ch g1 g2 co ro g10 m S2 mS gp zi_fu zi_fu (by omega) (by decide) (by decide) (by decide) k z rfl
  rw [e1, zl_b, e2, zl_b, zi_w_id (x := 120 + s) (by omega) (by omega), zl_c (zi_ix_of (by omega) (by omega))]
  have ep : m' (120 + s) = p' := by
    rw [z2.1.2.2.2.1 s s1 s2, zv_up_s]
  dsimp only
  rw [ep]
  exact ⟨_, _, _, _, _, _, _, _, _, _, _, _, _, _, _, _, _, _, _, rfl, rfl, k2, z2⟩
theorem yo_over_l (k : yk_sky t h u cl sc sr ch co ro br wc wr m) {x y : Int} (x1 : 0 ≤ x) (x2 : x ≤ 23) : ∀ (d : Nat) (i s : Int) (n n2 : Nat), i + d = 24 → 0 ≤ i → d < n → d < n2 → ∃ a, zf_X_over_l0 x y t ro co n s i = some a ∧ zf_M_over_l0 x y m n2 s i = some a := by
  obtain ⟨⟨ht, k126⟩, -, -, -, -, -, -, ki⟩ := id k
  have tin : 0 ≤ t ∧ t ≤ 2147483647 := ⟨ht.1, by have := ht.2; omega⟩
  intro d
  induction d with
  | zero =>
    intro i s n n2 e i1 hn hn2
    obtain ⟨n, rfl⟩ : ∃ q, n = q + 1 := ⟨n - 1, by omega⟩
    obtain ⟨n2, rfl⟩ : ∃ q, n2 = q + 1 := ⟨n2 - 1, by omega⟩
    refine ⟨s, ?_, ?_⟩
    · show zf_X_over_l0_b x y t ro co (zf_X_over_l0 x y t ro co n) s i = _
      unfold zf_X_over_l0_b
      rw [if_neg (by omega)]
    · show zf_M_over_l0_b x y m (zf_M_over_l0 x y m n2) s i = _
      unfold zf_M_over_l0_b
      rw [if_neg (by omega)]
  | succ d ih =>
    intro i s n n2 e i1 hn hn2
    obtain ⟨n, rfl⟩ : ∃ q, n = q + 1 := ⟨n - 1, by omega⟩
    obtain ⟨n2, rfl⟩ : ∃ q, n2 = q + 1 := ⟨n2 - 1, by omega⟩
    show ∃ a, zf_X_over_l0_b x y t ro co (zf_X_over_l0 x y t ro co n) s i = some a ∧ zf_M_over_l0_b x y m (zf_M_over_l0 x y m n2) s i = some a
    have nx : ∀ s2 : Int, ∃ a, zf_X_over_l0 x y t ro co n s2 (zi_w (i + 1)) = some a ∧ zf_M_over_l0 x y m n2 s2 (zi_w (i + 1)) = some a := fun s2 => by
      rw [zi_w_id (x := i + 1) (by omega) (by omega)]
      exact ih (i + 1) s2 n n2 (by omega) (by omega) (by omega) (by omega)
    unfold zf_X_over_l0_b zf_M_over_l0_b
    rw [if_pos (show i < 24 by omega), if_pos (show i < 24 by omega), ze_Sky_hasStar tin.1 tin.2, ze_M_isTold (by rw [k126]; exact tin.1) (by rw [k126]; exact tin.2), k126, zl_b, zl_b]
    by_cases q : zs_has 24 t i = 0
    · rw [if_pos q, if_pos q]
      exact nx s
    rw [if_neg q, if_neg q, zl_ci i1 (by omega), zi_w_id (x := 24 + i) (by omega) (by omega), zi_w_id (x := 0 + i) (by omega) (by omega), zl_ci (by omega) (by omega), Int.zero_add, zl_ci (by omega) (by omega)]
    have hti : zb t i.toNat = true := by
      by_cases hh : zb t i.toNat = true
      · exact hh
      · exact absurd (zs_has0 tin.1 tin.2 hh) q
    obtain ⟨hj1, hj2, hj3⟩ := ki i i1 (by omega)
    obtain ⟨c0, c1, -⟩ := hj3 hti
    rw [c0, c1]
    obtain ⟨⟨b1, b2⟩, -⟩ := hj1
    by_cases r : ro i = y
    · rw [if_pos r, if_pos r, zi_w_id (x := x - co i) (by omega) (by omega), ze_floorMod (by omega) (by omega), zl_b, zi_w_id (x := x - co i + 24) (by omega) (by omega), zi_rem_eq (a := x - co i + 24) (by omega) (by omega) (by decide) (by decide), show (x - co i + 24) % 24 = (x - co i) % 24 by omega]
      exact nx _
    · rw [if_neg r, if_neg r]
      exact nx s
theorem yo_over (k : yk_sky t h u cl sc sr ch co ro br wc wr m) {x y : Int} : ∃ a, zf_X_over x y t ro co = some a ∧ zf_M_over x y m = some a := by
  unfold zf_X_over zf_M_over
  rw [ze_X_isPlace, ze_M_isPlace, zl_b, zl_b]
  by_cases q : zs_pl x y = 0
  · rw [if_pos q, if_pos q]
    exact ⟨-1, rfl, rfl⟩
  rw [if_neg q, if_neg q]
  obtain ⟨x1, x2, y1, y2⟩ := zs_pl_ne q
  obtain ⟨a, e1, e2⟩ := yo_over_l (y := y) k x1 (by omega : x ≤ 23) 24 0 0 zi_fu zi_fu rfl (by decide) (by decide) (by decide)
  rw [e1, e2]
  exact ⟨a, rfl, rfl⟩
end YOQ
end
section
/-! The tape: bytes of a number. -/
section YTA
theorem zi_ofev {op : Int32 → Int32 → Int32} {a b : Int} : Int32.ofInt (zi_ev op a b) = op (Int32.ofInt a) (Int32.ofInt b) := by
  unfold zi_ev; exact Int32.ofInt_toInt _
theorem zb_by {a : Int} {j : Nat} (hj : j < 8) : zb (zi_by a) j = zb a j := by
  unfold zb zi_by
  rw [Int32.ofInt_toInt]
  simp only [Int32.toBitVec_toInt8, Int8.toBitVec_toInt32, BitVec.getLsbD_signExtend, BitVec.getLsbD_setWidth]
  simp [hj, show j < 32 by omega]
theorem zb_255 {j : Nat} : zb 255 j = decide (j < 8) := by
  by_cases h : j < 32
  · have : ∀ k : Nat, k < 32 → zb 255 k = decide (k < 8) := by decide +kernel
    exact this j h
  · rw [zb_ge (by omega), decide_eq_false (by omega)]
theorem zb_shr {x i : Int} {j : Nat} (k1 : 0 ≤ i) (k2 : i < 32) (hj : j + i.toNat < 32) : zb (zi_shr x i) j = zb x (j + i.toNat) := by
  unfold zi_shr
  rw [zb_ev]
  show ((Int32.ofInt x).toBitVec.sshiftRight' ((Int32.ofInt i &&& 31).toBitVec.smod 32)).getLsbD j = _
  unfold BitVec.sshiftRight'
  rw [zi_amt k1 k2, BitVec.getLsbD_sshiftRight, if_pos (by omega)]
  rw [show decide (32 ≤ j) = false from decide_eq_false (by omega), Nat.add_comm j]
  rfl
theorem zb_ush {x i : Int} {j : Nat} (k1 : 0 ≤ i) (k2 : i < 32) : zb (zi_ush x i) j = zb x (j + i.toNat) := by
  have hd : ∀ k : Nat, k < 32 → (((Int32.ofInt (k : Int)).toUInt32 &&& Int32.toUInt32 31).toBitVec % 32).toNat = k := by decide +kernel
  have hk := hd i.toNat (by omega)
  rw [Int.toNat_of_nonneg k1] at hk
  unfold zi_ush
  rw [zb_ev]
  show ((Int32.ofInt x).toBitVec >>> (((Int32.ofInt i).toUInt32 &&& Int32.toUInt32 31).toBitVec % 32)).getLsbD j = _
  rw [BitVec.ushiftRight_eq', hk, BitVec.getLsbD_ushiftRight, Nat.add_comm j]
  rfl
theorem zb_shln {x i : Int} {j : Nat} (k1 : 0 ≤ i) (k2 : i < 32) (hj : j < 32) : zb (zi_shl x i) j = (!decide (j < i.toNat) && zb x (j - i.toNat)) := by
  unfold zi_shl
  rw [zb_ev]
  show ((Int32.ofInt x).toBitVec <<< ((Int32.ofInt i &&& 31).toBitVec.smod 32)).getLsbD j = _
  rw [BitVec.shiftLeft_eq', zi_amt k1 k2, BitVec.getLsbD_shiftLeft, decide_eq_true hj, Bool.true_and]
  rfl
theorem zi_255 {a : Int} : 0 ≤ zi_and a 255 ∧ zi_and a 255 ≤ 255 := by
  have h : z24 (zi_and a 255) := z24_and2 ⟨by decide, by decide⟩
  refine ⟨h.1, ?_⟩
  have h2 := h.2
  by_cases hh : zi_and a 255 ≤ 255
  · exact hh
  have e : zi_and a 255 = ((zi_and a 255) % 256) := by
    have m1 : 0 ≤ zi_and a 255 % 256 := by omega
    refine z24_ext h ⟨m1, by omega⟩ fun j hj => ?_
    rw [zb_tb (by omega) (by omega), zb_tb (t := zi_and a 255 % 256) m1 (by omega)]
    have e2 : (zi_and a 255 % 256).toNat = (zi_and a 255).toNat % 2 ^ 8 := by omega
    rw [e2, Nat.testBit_mod_two_pow, ← zb_tb h.1 (by omega)]
    by_cases q : j < 8
    · rw [decide_eq_true q, Bool.true_and]
    · rw [decide_eq_false q, Bool.false_and, zb_and, zb_255, decide_eq_false q, Bool.and_false]
  omega
theorem zi_byte {x k : Int} (k1 : 0 ≤ k) (k2 : k ≤ 24) : zi_and (zi_by (zi_by (zi_shr x k))) 255 = zi_and (zi_ush x k) 255 := by
  have a := zi_255 (a := zi_by (zi_by (zi_shr x k)))
  have b := zi_255 (a := zi_ush x k)
  refine zb_ext (by omega) (by omega) (by omega) (by omega) fun j hj => ?_
  rw [zb_and, zb_and, zb_255]
  by_cases q : j < 8
  · rw [zb_by q, zb_by q, zb_shr k1 (by omega) (by omega), zb_ush k1 (by omega)]
  · rw [decide_eq_false q, Bool.and_false, Bool.and_false]
theorem yt_num_l {x : Int} : ∀ (d : Nat) (i n : Int) (T M : Int → Int) (f f2 : Nat), i + 1 = d → d ≤ 4 → n + d ≤ 220 → 0 ≤ n → d < f → d < f2 → yk_T T M →
    ∃ T' M', zf_Tape_addNumber_l0 x f (8 * i) n T = some (n + d, T') ∧ zf_M_types_l0 x f2 i n M = some (n + d, M') ∧ yk_T T' M' := by
  intro d
  induction d with
  | zero =>
    intro i n T M f f2 e _ _ _ hf hf2 hT
    obtain ⟨f, rfl⟩ : ∃ q, f = q + 1 := ⟨f - 1, by omega⟩
    obtain ⟨f2, rfl⟩ : ∃ q, f2 = q + 1 := ⟨f2 - 1, by omega⟩
    refine ⟨T, M, ?_, ?_, hT⟩
    · show zf_Tape_addNumber_l0_b x (zf_Tape_addNumber_l0 x f) (8 * i) n T = _
      unfold zf_Tape_addNumber_l0_b
      rw [if_pos (by omega)]
      simp
    · show zf_M_types_l0_b x (zf_M_types_l0 x f2) i n M = _
      unfold zf_M_types_l0_b
      rw [if_pos (by omega)]
      simp
  | succ d ih =>
    intro i n T M f f2 e hd hn n0 hf hf2 hT
    obtain ⟨f, rfl⟩ : ∃ q, f = q + 1 := ⟨f - 1, by omega⟩
    obtain ⟨f2, rfl⟩ : ∃ q, f2 = q + 1 := ⟨f2 - 1, by omega⟩
    have hT2 : yk_T (zv_up T n (zi_and (zi_ush x (8 * i)) 255)) (zv_up M n (zi_by (zi_by (zi_shr x (8 * i))))) := fun j j1 j2 => by
      by_cases ej : j = n
      · subst ej
        rw [zv_up_s, zv_up_s, zi_byte (by omega) (by omega)]
        exact ⟨rfl, zi_255⟩
      · rw [zv_up_n ej, zv_up_n ej]; exact hT j j1 j2
    obtain ⟨T', M', e1, e2, h2⟩ := ih (i - 1) (n + 1) _ _ f f2 (by omega) (by omega) (by omega) (by omega) (by omega) (by omega) hT2
    refine ⟨T', M', ?_, ?_, h2⟩
    · show zf_Tape_addNumber_l0_b x (zf_Tape_addNumber_l0 x f) (8 * i) n T = _
      unfold zf_Tape_addNumber_l0_b
      rw [if_neg (by omega), if_pos (by omega), zl_ci n0 (by omega), zi_w_id (x := 8 * i + -8) (by omega) (by omega), zi_w_id (x := n + 1) (by omega) (by omega), show 8 * i + -8 = 8 * (i - 1) by omega, e1]
      congr 2
      omega
    · show zf_M_types_l0_b x (zf_M_types_l0 x f2) i n M = _
      unfold zf_M_types_l0_b
      rw [if_neg (by omega), zl_ci n0 (by omega), zi_w_id (x := 8 * i) (by omega) (by omega), zi_w_id (x := i + -1) (by omega) (by omega), zi_w_id (x := n + 1) (by omega) (by omega), show i + -1 = i - 1 by omega, e2]
      congr 2
      omega
theorem yt_num {x n : Int} {T M : Int → Int} (n0 : 0 ≤ n) (hn : n + 4 ≤ 220) (hT : yk_T T M) : ∃ T' M', zf_Tape_addNumber x n T = some (n + 4, T') ∧ zf_M_types x n M = some (n + 4, M') ∧ yk_T T' M' := by
  obtain ⟨T', M', e1, e2, h⟩ := yt_num_l (x := x) 4 3 n T M zi_fu zi_fu (by omega) (by omega) (by omega) n0 (by decide) (by decide) hT
  refine ⟨T', M', ?_, ?_, h⟩
  · unfold zf_Tape_addNumber
    rw [show zf_Tape_addNumber_l0 x zi_fu 24 n T = _ from e1, zl_b]
    rfl
  · unfold zf_M_types
    rw [show zf_M_types_l0 x zi_fu 3 n M = _ from e2, zl_b]
    rfl
/-- the tape as both sides hold it -/
def yk_tape (n n2 : Int) (T M : Int → Int) : Prop := n2 = n ∧ 0 ≤ n ∧ n ≤ 220 ∧ yk_T T M
theorem yo_feed {a b c d e n n2 : Int} {T M : Int → Int} (h : yk_tape n n2 T M) : ∃ r n' n2' T' M', zf_X_feed a b c d e n T = some (r, n', T') ∧ zf_M_feed a b c d e n2 M = some (r, n2', M') ∧ yk_tape n' n2' T' M' := by
  obtain ⟨rfl, n0, n1, hT⟩ := h
  unfold zf_X_feed zf_M_feed
  rw [zi_w_id (x := n2 + 20) (by omega) (by omega)]
  by_cases q : 200 < n2
  · rw [if_pos q, if_pos (by omega)]
    exact ⟨-1, n2, n2, T, M, rfl, rfl, rfl, n0, n1, hT⟩
  rw [if_neg q, if_neg (by omega)]
  obtain ⟨T1, M1, e1, f1, h1⟩ := yt_num (x := a) n0 (by omega) hT
  obtain ⟨T2, M2, e2, f2, h2⟩ := yt_num (x := b) (n := n2 + 4) (by omega) (by omega) h1
  obtain ⟨T3, M3, e3, f3, h3⟩ := yt_num (x := c) (n := n2 + 4 + 4) (by omega) (by omega) h2
  obtain ⟨T4, M4, e4, f4, h4⟩ := yt_num (x := d) (n := n2 + 4 + 4 + 4) (by omega) (by omega) h3
  obtain ⟨T5, M5, e5, f5, h5⟩ := yt_num (x := e) (n := n2 + 4 + 4 + 4 + 4) (by omega) (by omega) h4
  rw [e1, f1, zl_b, zl_b]
  dsimp only
  rw [e2, f2, zl_b, zl_b]
  dsimp only
  rw [e3, f3, zl_b, zl_b]
  dsimp only
  rw [e4, f4, zl_b, zl_b]
  dsimp only
  rw [e5, f5, zl_b, zl_b]
  exact ⟨_, _, _, T5, M5, rfl, rfl, rfl, by omega, by omega, h5⟩
theorem ze_byteAt {j : Int} {T : Int → Int} (j0 : 0 ≤ j) (j1 : j < 220) : zf_Tape_byteAt j T = some (T j) := by
  unfold zf_Tape_byteAt
  rw [if_neg (by omega), if_pos j1, zl_ci j0 (by omega)]
theorem zi_ev_zb {op : Int32 → Int32 → Int32} {op2 : Int32 → Int32 → Int32} {a b c d : Int} (h : ∀ j, j < 32 → zb (zi_ev op a b) j = zb (zi_ev op2 c d) j) : zi_ev op a b = zi_ev op2 c d := zb_ext zi_ev_in.1 zi_ev_in.2 zi_ev_in.1 zi_ev_in.2 h
def yt_nb (T : Int → Int) (i : Int) : Int := zi_or (zi_or (zi_or (zi_shl (T (4 * i)) 24) (zi_shl (T (4 * i + 1)) 16)) (zi_shl (T (4 * i + 2)) 8)) (T (4 * i + 3))
theorem ze_numberAt {i : Int} {T : Int → Int} (i0 : 0 ≤ i) (i1 : i < 55) : zf_Tape_numberAt i T = some (yt_nb T i) := by
  unfold zf_Tape_numberAt yt_nb
  rw [zi_w_id (x := 4 * i) (by omega) (by omega), ze_byteAt (by omega) (by omega), zl_b, zi_w_id (x := 4 * i + 1) (by omega) (by omega), ze_byteAt (by omega) (by omega), zl_b, zi_w_id (x := 4 * i + 2) (by omega) (by omega), ze_byteAt (by omega) (by omega), zl_b, zi_w_id (x := 4 * i + 3) (by omega) (by omega), ze_byteAt (by omega) (by omega), zl_b]
theorem yt_nb_eq {a b c d : Int} : zi_or (zi_shl (zi_or (zi_shl (zi_or (zi_shl (zi_or (zi_shl 0 8) a) 8) b) 8) c) 8) d = zi_or (zi_or (zi_or (zi_shl a 24) (zi_shl b 16)) (zi_shl c 8)) d := by
  unfold zi_or
  refine zi_ev_zb fun j hj => ?_
  show zb (zi_or (zi_shl (zi_or (zi_shl (zi_or (zi_shl (zi_or (zi_shl 0 8) a) 8) b) 8) c) 8) d) j = zb (zi_or (zi_or (zi_or (zi_shl a 24) (zi_shl b 16)) (zi_shl c 8)) d) j
  have s8 : ∀ (x : Int) (k : Nat), k < 32 → zb (zi_shl x 8) k = (!decide (k < 8) && zb x (k - 8)) := fun x k hk => zb_shln (by decide) (by decide) hk
  have s16 : ∀ (x : Int) (k : Nat), k < 32 → zb (zi_shl x 16) k = (!decide (k < 16) && zb x (k - 16)) := fun x k hk => zb_shln (by decide) (by decide) hk
  have s24 : ∀ (x : Int) (k : Nat), k < 32 → zb (zi_shl x 24) k = (!decide (k < 24) && zb x (k - 24)) := fun x k hk => zb_shln (by decide) (by decide) hk
  rw [zb_or, zb_or, zb_or, zb_or, s8 _ j hj, s8 c j hj, s16 b j hj, s24 a j hj, zb_or, s8 _ (j - 8) (by omega), zb_or, s8 _ (j - 8 - 8) (by omega), zb_or, s8 _ (j - 8 - 8 - 8) (by omega), zb_0, Bool.and_false, Bool.false_or]
  rw [show j - 8 - 8 - 8 = j - 24 by omega, show j - 8 - 8 = j - 16 by omega]
  by_cases q1 : j < 8
  · rw [decide_eq_true q1, decide_eq_true (show j < 16 by omega), decide_eq_true (show j < 24 by omega)]
    simp
  rw [decide_eq_false q1]
  by_cases q2 : j < 16
  · rw [decide_eq_true q2, decide_eq_true (show j < 24 by omega), decide_eq_true (show j - 8 < 8 by omega)]
    simp
  rw [decide_eq_false q2, decide_eq_false (show ¬ j - 8 < 8 by omega)]
  by_cases q3 : j < 24
  · rw [decide_eq_true q3, decide_eq_true (show j - 16 < 8 by omega)]
    simp
  rw [decide_eq_false q3, decide_eq_false (show ¬ j - 16 < 8 by omega)]
  simp [Bool.or_assoc]
theorem ze_tapeNumber {i : Int} {T M : Int → Int} (hT : yk_T T M) (i0 : 0 ≤ i) (i1 : i < 55) : zf_M_tapeNumber i M = some (yt_nb T i) := by
  have st : ∀ (n : Nat) (s j : Int), 4 * i ≤ j → j < 4 * i + 4 → zf_M_tapeNumber_l0 i M (n + 1) s j = zf_M_tapeNumber_l0 i M n (zi_or (zi_shl s 8) (T j)) (j + 1) := fun n s j j0 j1 => by
    show zf_M_tapeNumber_l0_b i M (zf_M_tapeNumber_l0 i M n) s j = _
    unfold zf_M_tapeNumber_l0_b
    rw [zi_w_id (x := 4 * i) (by omega) (by omega), zi_w_id (x := 4 * i + 4) (by omega) (by omega), if_pos (by omega), zl_ci (by omega) (by omega), (hT j (by omega) (by omega)).1, zi_w_id (x := j + 1) (by omega) (by omega)]
  obtain ⟨n, hn⟩ : ∃ n, zi_fu = n + 1 + 1 + 1 + 1 + 1 := ⟨zi_fu - 5, by decide⟩
  unfold zf_M_tapeNumber
  rw [zi_w_id (x := 4 * i) (by omega) (by omega), hn, st _ _ _ (by omega) (by omega), st _ _ _ (by omega) (by omega), st _ _ _ (by omega) (by omega), st _ _ _ (by omega) (by omega)]
  show ((zf_M_tapeNumber_l0_b i M (zf_M_tapeNumber_l0 i M n) (zi_or (zi_shl (zi_or (zi_shl (zi_or (zi_shl (zi_or (zi_shl 0 8) (T (4 * i))) 8) (T (4 * i + 1))) 8) (T (4 * i + 1 + 1))) 8) (T (4 * i + 1 + 1 + 1))) (4 * i + 1 + 1 + 1 + 1)).bind _) = _
  unfold zf_M_tapeNumber_l0_b
  rw [zi_w_id (x := 4 * i) (by omega) (by omega), zi_w_id (x := 4 * i + 4) (by omega) (by omega), if_neg (by omega), zl_b, yt_nb_eq]
  unfold yt_nb
  rw [show 4 * i + 1 + 1 = 4 * i + 2 by omega, show 4 * i + 2 + 1 = 4 * i + 3 by omega]
end YTA
end
section
/-! Copies of the whole state, keep and undo, check. -/
section YKE
variable {t h u cl sc sr ch ts : Int} {co ro br wc wr m gp gl : Int → Int}
theorem yk_sky_cg (k : yk_sky t h u cl sc sr ch co ro br wc wr m) {co2 ro2 br2 wc2 wr2 m2 : Int → Int} (e1 : ∀ j, 0 ≤ j → j < 24 → co2 j = co j) (e2 : ∀ j, 0 ≤ j → j < 24 → ro2 j = ro j) (e3 : ∀ j, 0 ≤ j → j < 24 → br2 j = br j) (e4 : ∀ j, 0 ≤ j → j < 24 → wc2 j = wc j) (e5 : ∀ j, 0 ≤ j → j < 24 → wr2 j = wr j)
    (e : ∀ j, 0 ≤ j → j < 422 → m2 j = m j) : yk_sky t h u cl sc sr ch co2 ro2 br2 wc2 wr2 m2 := by
  obtain ⟨⟨ht, k126⟩, ⟨hk2, k128⟩, k129, ⟨hk4, k130⟩, ⟨hk5, k131⟩, ⟨hk6, k132⟩, ⟨hk7, k133⟩, ki⟩ := k
  refine ⟨⟨ht, by rw [e _ (by decide) (by decide)]; exact k126⟩, ⟨hk2, by rw [e _ (by decide) (by decide)]; exact k128⟩, by rw [e _ (by decide) (by decide)]; exact k129, ⟨hk4, by rw [e _ (by decide) (by decide)]; exact k130⟩, ⟨hk5, by rw [e _ (by decide) (by decide)]; exact k131⟩, ⟨hk6, by rw [e _ (by decide) (by decide)]; exact k132⟩, ⟨hk7, by rw [e _ (by decide) (by decide)]; exact k133⟩, fun j j1 j2 => ?_⟩
  rw [e j j1 (by omega), e (24 + j) (by omega) (by omega), e (48 + j) (by omega) (by omega), e (72 + j) (by omega) (by omega), e (96 + j) (by omega) (by omega), e1 j j1 j2, e2 j j1 j2, e3 j j1 j2, e4 j j1 j2, e5 j j1 j2]
  exact ki j j1 j2
theorem yk_sea_cg (z : yk_sea ts gp gl m) {gp2 gl2 m2 : Int → Int} (e1 : ∀ j, 0 ≤ j → j < 6 → gp2 j = gp j) (e2 : ∀ j, 0 ≤ j → j < 12 → gl2 j = gl j) (e : ∀ j, 0 ≤ j → j < 422 → m2 j = m j) : yk_sea ts gp2 gl2 m2 := by
  obtain ⟨⟨t1, t2, k1, hs, hr, hl⟩, hb⟩ := z
  refine ⟨⟨t1, t2, by rw [e _ (by decide) (by decide)]; exact k1, fun s s1 s2 => by rw [e _ (by omega) (by omega), e1 s s1 s2]; exact hs s s1 s2, fun y y1 y2 => by rw [e2 y y1 y2]; exact hr y y1 y2, fun x y x1 x2 y1 y2 => by rw [e _ (by omega) (by omega), e2 y y1 y2]; exact hl x y x1 x2 y1 y2⟩, fun s s1 s2 => by rw [e1 s s1 s2]; exact hb s s1 s2⟩
theorem ze_copies_l {g0 : Int → Int} : ∀ (d : Nat) (j : Int) (g : Int → Int) (n : Nat), j + d = 422 → 0 ≤ j → d < n → ∃ g2, zf_M_copies_422_422_l0 g0 n j g = some g2 ∧ (∀ i, j ≤ i → i < 422 → g2 i = g0 i) ∧ ∀ i, i < j → g2 i = g i := by
  intro d
  induction d with
  | zero =>
    intro j g n e _ hn
    obtain ⟨n, rfl⟩ : ∃ q, n = q + 1 := ⟨n - 1, by omega⟩
    refine ⟨g, ?_, fun i _ _ => by omega, fun _ _ => rfl⟩
    show zf_M_copies_422_422_l0_b g0 (zf_M_copies_422_422_l0 g0 n) j g = _
    unfold zf_M_copies_422_422_l0_b
    rw [if_neg (by omega)]
  | succ d ih =>
    intro j g n e j0 hn
    obtain ⟨n, rfl⟩ : ∃ q, n = q + 1 := ⟨n - 1, by omega⟩
    obtain ⟨g2, e1, a, b⟩ := ih (j + 1) (zv_up g j (g0 j)) n (by omega) (by omega) (by omega)
    refine ⟨g2, ?_, fun i i1 i2 => ?_, fun i i1 => ?_⟩
    · show zf_M_copies_422_422_l0_b g0 (zf_M_copies_422_422_l0 g0 n) j g = _
      unfold zf_M_copies_422_422_l0_b
      rw [if_pos (by omega), zl_ci j0 (by omega), zi_w_id (x := j + 1) (by omega) (by omega), e1]
    · by_cases q : i = j
      · subst q
        rw [b i (by omega), zv_up_s]
      · exact a i (by omega) i2
    · rw [b i (by omega), zv_up_n (by omega)]
theorem ze_copies {g0 g : Int → Int} : ∃ g2, zf_M_copies_422_422 g0 g = some g2 ∧ ∀ i, 0 ≤ i → i < 422 → g2 i = g0 i := by
  obtain ⟨g2, e1, a, -⟩ := ze_copies_l (g0 := g0) 422 0 g zi_fu (by decide) (by decide) (by decide)
  refine ⟨g2, ?_, a⟩
  unfold zf_M_copies_422_422
  rw [e1]; rfl
theorem ze_begins {g0 g : Int → Int} : ∃ g2, zf_M_begins g0 g = some g2 ∧ ∀ i, 0 ≤ i → i < 422 → g2 i = g0 i := by
  obtain ⟨g2, e1, a⟩ := ze_copies (g0 := g0) (g := g)
  refine ⟨g2, ?_, a⟩
  unfold zf_M_begins
  rw [e1]; rfl
theorem ze_again {g0 g : Int → Int} : ∃ g2, zf_M_again g0 g = some g2 ∧ ∀ i, 0 ≤ i → i < 422 → g2 i = g0 i := by
  obtain ⟨g2, e1, a⟩ := ze_copies (g0 := g0) (g := g)
  refine ⟨g2, ?_, a⟩
  unfold zf_M_again
  rw [e1]; rfl
theorem zv_cpy_in {g0 g : Int → Int} {n j : Int} (h : j < n) : zv_cpy g0 g n j = g0 j := if_pos h
theorem yo_keep (k : yk_sky t h u cl sc sr ch co ro br wc wr m) (z : yk_sea ts gp gl m) {f1 f3 f5 f7 f9 f11 f13 f15 f16 f0 : Int} {g1 g3 g5 g7 g9 g11 g13 mK : Int → Int} :
    ∃ r co' ro' br' wc' wr' gl' gp' mK', zf_X_keep t f1 h f3 u f5 cl f7 sc f9 sr f11 ch f13 ts f15 f16 co g1 ro g3 br g5 wc g7 wr g9 gl g11 gp g13 = some (r, t, h, u, cl, sc, sr, ch, ts, 1, co', ro', br', wc', wr', gl', gp') ∧
      zf_M_keep f0 m mK = some (r, 1, mK') ∧ yk_sky t h u cl sc sr ch co' ro' br' wc' wr' mK' ∧ yk_sea ts gp' gl' mK' := by
  obtain ⟨⟨ht, k126⟩, -⟩ := id k
  obtain ⟨g2, e2, a⟩ := ze_copies (g0 := m) (g := mK)
  refine ⟨zs_sum t 24, zv_cpy co g1 24, zv_cpy ro g3 24, zv_cpy br g5 24, zv_cpy wc g7 24, zv_cpy wr g9 24, zv_cpy gl g11 12, zv_cpy gp g13 6, g2, ?_, ?_, yk_sky_cg k (fun j j1 j2 => zv_cpy_in j2) (fun j j1 j2 => zv_cpy_in j2) (fun j j1 j2 => zv_cpy_in j2) (fun j j1 j2 => zv_cpy_in j2) (fun j j1 j2 => zv_cpy_in j2) a, yk_sea_cg z (fun j j1 j2 => zv_cpy_in j2) (fun j j1 j2 => zv_cpy_in j2) a⟩
  · unfold zf_X_keep zf_Sky_copyFrom zf_Sea_copyFrom
    rw [zl_b, zl_b, ze_bitCount ht.1 (by have := ht.2; omega), zl_b]
  · unfold zf_M_keep
    rw [e2, zl_b, k126, ze_M_bits ht.1 (by have := ht.2; omega), zl_b]
theorem yo_undo {ik : Int} {mK : Int → Int} {f2 f4 f6 f8 f10 f12 f14 f16 : Int} {g1 g3 g5 g7 g9 g11 g13 : Int → Int} (hk : ik ≠ 0 → yk_sky t h u cl sc sr ch co ro br wc wr mK ∧ yk_sea ts gp gl mK) (k : yk_sky f2 f4 f6 f8 f10 f12 f14 g1 g3 g5 g7 g9 m) (z : yk_sea f16 g13 g11 m) :
    ∃ r f2' f4' f6' f8' f10' f12' f14' f16' g1' g3' g5' g7' g9' g11' g13' m', zf_X_undo ik t f2 h f4 u f6 cl f8 sc f10 sr f12 ch f14 ts f16 co g1 ro g3 br g5 wc g7 wr g9 gl g11 gp g13 = some (r, f2', f4', f6', f8', f10', f12', f14', f16', g1', g3', g5', g7', g9', g11', g13') ∧
      zf_M_undo ik mK m = some (r, m') ∧ yk_sky f2' f4' f6' f8' f10' f12' f14' g1' g3' g5' g7' g9' m' ∧ yk_sea f16' g13' g11' m' := by
  unfold zf_X_undo zf_M_undo
  by_cases q : ik = 0
  · rw [if_pos q, if_pos q]
    exact ⟨0, f2, f4, f6, f8, f10, f12, f14, f16, g1, g3, g5, g7, g9, g11, g13, m, rfl, rfl, k, z⟩
  · rw [if_neg q, if_neg q]
    obtain ⟨kk, kz⟩ := hk q
    obtain ⟨g2, e2, a⟩ := ze_copies (g0 := mK) (g := m)
    unfold zf_Sky_copyFrom zf_Sea_copyFrom
    rw [zl_b, zl_b, e2, zl_b]
    exact ⟨1, _, _, _, _, _, _, _, _, _, _, _, _, _, _, _, g2, rfl, rfl, yk_sky_cg kk (fun j j1 j2 => zv_cpy_in j2) (fun j j1 j2 => zv_cpy_in j2) (fun j j1 j2 => zv_cpy_in j2) (fun j j1 j2 => zv_cpy_in j2) (fun j j1 j2 => zv_cpy_in j2) a, yk_sea_cg kz (fun j j1 j2 => zv_cpy_in j2) (fun j j1 j2 => zv_cpy_in j2) a⟩
theorem yo_check_l {x : Int} {T M : Int → Int} (z : yk_sea ts gp gl m) (hT : yk_T T M) (x2 : x ≤ 6) : ∀ (d : Nat) (i : Int) (f f3 : Nat), x - i ≤ d → 0 ≤ i → d < f → d < f3 → (zf_X_check_l0 x 0 ts T gp f i = some (.inl ()) ∧ zf_M_check_l0 x 0 M m f3 i = some (.inl ())) ∨ ∃ r, zf_X_check_l0 x 0 ts T gp f i = some (.inr (r, 0)) ∧ zf_M_check_l0 x 0 M m f3 i = some (.inr (r, 0)) := by
  obtain ⟨⟨t1, t2, e127, hs, -⟩, hb⟩ := id z
  intro d
  induction d with
  | zero =>
    intro i f f3 e i0 hf hf3
    obtain ⟨f, rfl⟩ : ∃ q, f = q + 1 := ⟨f - 1, by omega⟩
    obtain ⟨f3, rfl⟩ : ∃ q, f3 = q + 1 := ⟨f3 - 1, by omega⟩
    refine .inl ⟨?_, ?_⟩
    · show zf_X_check_l0_b x 0 ts T gp (zf_X_check_l0 x 0 ts T gp f) i = _
      unfold zf_X_check_l0_b
      rw [if_neg (by omega)]
    · show zf_M_check_l0_b x 0 M m (zf_M_check_l0 x 0 M m f3) i = _
      unfold zf_M_check_l0_b
      rw [if_neg (by omega)]
  | succ d ih =>
    intro i f f3 e i0 hf hf3
    obtain ⟨f, rfl⟩ : ∃ q, f = q + 1 := ⟨f - 1, by omega⟩
    obtain ⟨f3, rfl⟩ : ∃ q, f3 = q + 1 := ⟨f3 - 1, by omega⟩
    show (zf_X_check_l0_b x 0 ts T gp (zf_X_check_l0 x 0 ts T gp f) i = _ ∧ zf_M_check_l0_b x 0 M m (zf_M_check_l0 x 0 M m f3) i = _) ∨ ∃ r, zf_X_check_l0_b x 0 ts T gp (zf_X_check_l0 x 0 ts T gp f) i = _ ∧ zf_M_check_l0_b x 0 M m (zf_M_check_l0 x 0 M m f3) i = _
    unfold zf_X_check_l0_b zf_M_check_l0_b
    by_cases q : i < x
    · have nx := ih (i + 1) f f3 (by omega) (by omega) (by omega) (by omega)
      rw [if_pos q, if_pos q, ze_Sea_hasShip t1 (by omega), zl_b, ze_tapeNumber hT i0 (by omega), zl_b, ze_M_isShip (by omega) (by omega), e127, zl_b, ze_numberAt i0 (by omega), zl_b, zl_b, zi_w_id (x := i + 1) (by omega) (by omega), zi_w_id (x := 120 + i) (by omega) (by omega), zl_ci i0 (by omega), zl_ci (by omega) (by omega), hs i i0 (by omega)]
      by_cases s : zs_has 6 ts i = 0
      · rw [if_pos s, if_pos s]
        by_cases c : yt_nb T i = 0
        · rw [if_pos c, if_pos c]; exact nx
        · rw [if_neg c, if_neg c]; exact .inr ⟨i, rfl, rfl⟩
      · rw [if_neg s, if_neg s]
        by_cases c : yt_nb T i = gp i
        · rw [if_pos c, if_pos c]; exact nx
        · rw [if_neg c, if_neg c]; exact .inr ⟨i, rfl, rfl⟩
    · rw [if_neg q, if_neg q]
      exact .inl ⟨rfl, rfl⟩
theorem yo_check {x n n2 : Int} {T M : Int → Int} (z : yk_sea ts gp gl m) (p : yk_tape n n2 T M) : ∃ r n' n2', zf_X_check x n ts T gp = some (r, n') ∧ zf_M_check x n2 M m = some (r, n2') ∧ yk_tape n' n2' T M := by
  obtain ⟨rfl, n0, n1, hT⟩ := id p
  unfold zf_X_check zf_M_check
  rw [ze_X_isWithin, ze_M_in, zl_b, zl_b]
  by_cases q : zs_in x 0 6 = 0
  · rw [if_pos q, if_pos q]
    exact ⟨-2, n2, n2, rfl, rfl, p⟩
  rw [if_neg q, if_neg q]
  obtain ⟨x1, x2⟩ := zs_in_ne q
  unfold zf_Tape_take
  rw [zi_w_id (x := 4 * x) (by omega) (by omega), zi_div_eq n0 (by omega) (by decide) (by decide)]
  by_cases c : n2 < 4 * x
  · rw [if_pos c, zl_b, if_pos rfl, if_pos (by omega)]
    exact ⟨-2, n2, n2, rfl, rfl, p⟩
  rw [if_neg c, zl_b, if_neg (show ¬ (1 : Int) = 0 by decide), if_neg (show ¬ n2 / 4 < x by omega)]
  have pp : yk_tape 0 0 T M := ⟨rfl, by decide, by decide, hT⟩
  rcases yo_check_l (x := x) z hT (by omega) 6 0 zi_fu zi_fu (by omega) (by decide) (by decide) (by decide) with ⟨e1, e2⟩ | ⟨r, e1, e2⟩
  · dsimp only
    rw [e1, e2, zl_b]
    exact ⟨-1, 0, 0, rfl, rfl, pp⟩
  · dsimp only
    rw [e1, e2, zl_b]
    exact ⟨r, 0, 0, rfl, rfl, pp⟩
end YKE
end
section
/-! count: alike but for the stars. -/
section YCO
variable {t h u cl sc sr ch ts : Int} {co ro br wc wr m gp gl : Int → Int}
theorem yc_row (z : yk_sea ts gp gl m) {y s : Int} (y1 : 0 ≤ y) (y2 : y < 12) (s0 : 0 ≤ s) (s1 : s ≤ 288) : ∀ (d k f : Nat), k + d = 24 → zf_M_landMany_l0 m (f + d) (s + zs_sum (gl y) k) (24 * y + k) = zf_M_landMany_l0 m f (s + zs_sum (gl y) 24) (24 * y + 24) := by
  obtain ⟨⟨-, -, -, -, hr, hl⟩, -⟩ := z
  intro d
  induction d with
  | zero =>
    intro k f e
    obtain rfl : k = 24 := by omega
    rfl
  | succ d ih =>
    intro k f e
    have b := zs_sum_in (t := gl y) k
    have hp := hl (k : Int) y (by omega) (by omega) y1 y2
    rw [show f + (d + 1) = (f + d) + 1 by omega]
    show zf_M_landMany_l0_b m (zf_M_landMany_l0 m (f + d)) (s + zs_sum (gl y) k) (24 * y + k) = _
    unfold zf_M_landMany_l0_b
    rw [if_pos (by omega), zi_w_id (x := 134 + (24 * y + (k : Int))) (by omega) (by omega), zl_ci (by omega) (by omega), hp, zi_w_id (x := 24 * y + (k : Int) + 1) (by omega) (by omega), zi_w_id (x := s + zs_sum (gl y) k + (if zi_tb (gl y) (k : Int) = true then 1 else 0)) (by split <;> omega) (by split <;> omega)]
    have := ih (k + 1) f (by omega)
    rw [← this]
    congr 1
    · show _ = s + (zs_sum (gl y) k + (if zi_tb (gl y) (k : Int) = true then 1 else 0))
      omega
    · omega
theorem yc_land_l (z : yk_sea ts gp gl m) : ∀ (d : Nat) (y s : Int) (f f2 : Nat), y + d = 12 → 0 ≤ y → 0 ≤ s → s ≤ 24 * y → d < f → 24 * d < f2 → ∃ a, zf_Sea_countLand_l0 gl f s y = some a ∧ zf_M_landMany_l0 m f2 s (24 * y) = some a := by
  intro d
  induction d with
  | zero =>
    intro y s f f2 e y0 s0 s1 hf hf2
    obtain ⟨f, rfl⟩ : ∃ q, f = q + 1 := ⟨f - 1, by omega⟩
    obtain ⟨f2, rfl⟩ : ∃ q, f2 = q + 1 := ⟨f2 - 1, by omega⟩
    refine ⟨s, ?_, ?_⟩
    · show zf_Sea_countLand_l0_b gl (zf_Sea_countLand_l0 gl f) s y = _
      unfold zf_Sea_countLand_l0_b
      rw [if_neg (by omega)]
    · show zf_M_landMany_l0_b m (zf_M_landMany_l0 m f2) s (24 * y) = _
      unfold zf_M_landMany_l0_b
      rw [if_neg (by omega)]
  | succ d ih =>
    intro y s f f2 e y0 s0 s1 hf hf2
    obtain ⟨f, rfl⟩ : ∃ q, f = q + 1 := ⟨f - 1, by omega⟩
    obtain ⟨f2, rfl⟩ : ∃ q, f2 = q + 24 := ⟨f2 - 24, by omega⟩
    have b := zs_sum_in (t := gl y) 24
    have hy := z.1.2.2.2.2.1 y y0 (by omega)
    obtain ⟨a, e1, e2⟩ := ih (y + 1) (s + zs_sum (gl y) 24) f f2 (by omega) (by omega) (by omega) (by omega) (by omega) (by omega)
    refine ⟨a, ?_, ?_⟩
    · show zf_Sea_countLand_l0_b gl (zf_Sea_countLand_l0 gl f) s y = _
      unfold zf_Sea_countLand_l0_b
      rw [if_pos (by omega), zl_ci y0 (by omega), ze_bitCount hy.1 (by omega), zl_b, zi_w_id (x := s + zs_sum (gl y) 24) (by omega) (by omega), zi_w_id (x := y + 1) (by omega) (by omega), e1]
    · have r := yc_row z y0 (by omega : y < 12) s0 (by omega) 24 0 f2 rfl
      rw [show s + zs_sum (gl y) 0 = s from Int.add_zero s, show 24 * y + ((0 : Nat) : Int) = 24 * y by omega] at r
      rw [r, show 24 * y + 24 = 24 * (y + 1) by omega, e2]
theorem yc_land (z : yk_sea ts gp gl m) : ∃ a, zf_Sea_countLand gl = some a ∧ zf_M_landMany m = some a := by
  obtain ⟨a, e1, e2⟩ := yc_land_l z 12 0 0 zi_fu zi_fu (by decide) (by decide) (by decide) (by decide) (by decide) (by decide)
  refine ⟨a, ?_, ?_⟩
  · unfold zf_Sea_countLand
    rw [e1]; rfl
  · unfold zf_M_landMany
    rw [show zf_M_landMany_l0 m zi_fu 0 0 = _ from e2]; rfl
theorem yo_count (k : yk_sky t h u cl sc sr ch co ro br wc wr m) (z : yk_sea ts gp gl m) {n nc tl sz : Int} : ∃ a b, zf_X_count n h u cl t ts nc tl sz ch sc sr gl gp = some a ∧ zf_M_count n nc tl sz m = some b ∧ (n ≠ 3 → a = b) := by
  obtain ⟨⟨ht, k126⟩, ⟨hk2, k128⟩, k129, ⟨hk4, k130⟩, ⟨hk5, k131⟩, ⟨hk6, k132⟩, ⟨hk7, k133⟩, -⟩ := k
  obtain ⟨⟨t1, t2, e127, hs, -⟩, -⟩ := id z
  unfold zf_X_count zf_M_count
  rw [k128, k129, k130, k126, e127, k133, k131, k132]
  by_cases q0 : n = 0
  · rw [if_pos q0, if_pos q0]; exact ⟨_, _, rfl, rfl, fun _ => rfl⟩
  rw [if_neg q0, if_neg q0]
  by_cases q1 : n = 1
  · rw [if_pos q1, if_pos q1]; exact ⟨_, _, rfl, rfl, fun _ => rfl⟩
  rw [if_neg q1, if_neg q1]
  by_cases q2 : n = 2
  · rw [if_pos q2, if_pos q2]; exact ⟨_, _, rfl, rfl, fun _ => rfl⟩
  rw [if_neg q2, if_neg q2]
  by_cases q3 : n = 3
  · rw [if_pos q3, if_pos q3, ze_bitCount ht.1 (by have := ht.2; omega), zl_b]; exact ⟨_, _, rfl, rfl, fun c => absurd q3 c⟩
  rw [if_neg q3, if_neg q3]
  by_cases q4 : n = 4
  · rw [if_pos q4, if_pos q4]; exact ⟨_, _, rfl, rfl, fun _ => rfl⟩
  rw [if_neg q4, if_neg q4]
  by_cases q5 : n = 5
  · rw [if_pos q5, if_pos q5]; exact ⟨_, _, rfl, rfl, fun _ => rfl⟩
  rw [if_neg q5, if_neg q5]
  by_cases q6 : n = 6
  · rw [if_pos q6, if_pos q6]; exact ⟨_, _, rfl, rfl, fun _ => rfl⟩
  rw [if_neg q6, if_neg q6]
  by_cases q7 : n = 7
  · rw [if_pos q7, if_pos q7]; exact ⟨_, _, rfl, rfl, fun _ => rfl⟩
  rw [if_neg q7, if_neg q7]
  by_cases q8 : n = 8
  · rw [if_pos q8, if_pos q8]; exact ⟨_, _, rfl, rfl, fun _ => rfl⟩
  rw [if_neg q8, if_neg q8]
  by_cases q9 : n = 9
  · rw [if_pos q9, if_pos q9]; exact ⟨_, _, rfl, rfl, fun _ => rfl⟩
  rw [if_neg q9, if_neg q9]
  by_cases q10 : n = 10
  · obtain ⟨a, e1, e2⟩ := yc_land z
    rw [if_pos q10, if_pos q10, e1, e2]
    exact ⟨a, a, rfl, rfl, fun _ => rfl⟩
  rw [if_neg q10, if_neg q10, ze_X_isWithin, ze_M_in, zl_b, zl_b]
  by_cases q : zs_in n 20 25 = 0
  · rw [if_pos q, if_pos q]; exact ⟨_, _, rfl, rfl, fun _ => rfl⟩
  rw [if_neg q, if_neg q]
  obtain ⟨n1, n2⟩ := zs_in_ne q
  rw [zi_w_id (x := n - 20) (by omega) (by omega), zi_w_id (x := 120 + n) (by omega) (by omega), zi_w_id (x := 120 + n - 20) (by omega) (by omega), ze_Sea_hasShip t1 (by omega), zl_b, ze_M_isShip (by omega) (by omega), e127, zl_b]
  by_cases s : zs_has 6 ts (n - 20) = 0
  · rw [if_pos s, if_pos s]; exact ⟨_, _, rfl, rfl, fun _ => rfl⟩
  rw [if_neg s, if_neg s, zl_ci (by omega) (by omega), zl_ci (by omega) (by omega)]
  have := hs (n - 20) (by omega) (by omega)
  exact ⟨_, _, rfl, rfl, fun _ => by rw [← this, show 120 + (n - 20) = 120 + n - 20 by omega]⟩
end YCO
end
section
/-! A tale: read alike on both sides. -/
def yt_ln (n : Int) (fr to : Int → Int) (a b : Int) : Prop := ∃ i, 0 ≤ i ∧ i < n ∧ ((fr i = a ∧ to i = b) ∨ (fr i = b ∧ to i = a))
def yk_tl (n nm : Int) (nr fr to : Int → Int) : Prop := (0 ≤ n ∧ n ≤ 12) ∧ (∀ i, 0 ≤ i → i < n → (0 ≤ fr i ∧ fr i ≤ 7) ∧ (0 ≤ to i ∧ to i ≤ 7) ∧ fr i ≠ to i) ∧
  (∀ i j, 0 ≤ i → i < j → j < n → ¬ ((fr i = fr j ∧ to i = to j) ∨ (fr i = to j ∧ to i = fr j))) ∧ z24 nm ∧ (∀ b : Nat, zb nm b = true ↔ ∃ i, 0 ≤ i ∧ i < n ∧ (fr i = b ∨ to i = b)) ∧
  ∀ a, 0 ≤ a → a < 8 → z24 (nr a) ∧ ∀ b : Nat, zb (nr a) b = true ↔ yt_ln n fr to a b
def yt_nm (T : Int → Int) (len p : Int) : Int := if p < len ∧ 65 ≤ T p ∧ T p ≤ 72 then T p - 65 else -1
section YTL
variable {T M nr fr to : Int → Int} {len n nm a b p f : Int}
theorem ze_fault (h1 : 0 ≤ p) (h2 : p ≤ 220) {x : Int} (k1 : 0 ≤ x) (k2 : x ≤ 6) : zf_X_faultAt x p = some (-1000 * x - p) := by
  unfold zf_X_faultAt
  rw [zi_w_id (x := -1000 * x) (by omega) (by omega), zi_w_id (x := -1000 * x - p) (by omega) (by omega)]
theorem yt_ln_up (h0 : 0 ≤ n) {p q : Int} : yt_ln (n + 1) (zv_up fr n a) (zv_up to n b) p q ↔ yt_ln n fr to p q ∨ (a = p ∧ b = q) ∨ (a = q ∧ b = p) := by
  constructor
  · rintro ⟨i, i0, i1, h⟩
    by_cases e : i = n
    · subst e
      rw [zv_up_s, zv_up_s] at h
      exact .inr h
    · rw [zv_up_n e, zv_up_n e] at h
      exact .inl ⟨i, i0, by omega, h⟩
  · rintro (⟨i, i0, i1, h⟩ | h)
    · refine ⟨i, i0, by omega, ?_⟩
      rw [zv_up_n (by omega), zv_up_n (by omega)]
      exact h
    · refine ⟨n, h0, by omega, ?_⟩
      rw [zv_up_s, zv_up_s]
      exact h
theorem yk_tl_add (h : yk_tl n nm nr fr to) (hn : n < 12) (a0 : 0 ≤ a) (a1 : a ≤ 7) (b0 : 0 ≤ b) (b1 : b ≤ 7) (ab : a ≠ b) (nt : ¬ yt_ln n fr to a b) :
    yk_tl (n + 1) (zi_or nm (zi_or (zi_shl 1 a) (zi_shl 1 b))) (zv_up (zv_up nr a (zi_or (nr a) (zi_shl 1 b))) b (zi_or (zv_up nr a (zi_or (nr a) (zi_shl 1 b)) b) (zi_shl 1 a))) (zv_up fr n a) (zv_up to n b) := by
  obtain ⟨⟨n0, n1⟩, hi, hd, hz, hb, hr⟩ := h
  refine ⟨⟨by omega, by omega⟩, fun i i0 i1 => ?_, fun i j i0 ij j1 => ?_, z24_or hz (z24_or (z24_shl a0 (by omega)) (z24_shl b0 (by omega))), fun c => ?_, fun c c0 c1 => ?_⟩
  · by_cases e : i = n
    · subst e
      rw [zv_up_s, zv_up_s]
      exact ⟨⟨a0, a1⟩, ⟨b0, b1⟩, ab⟩
    · rw [zv_up_n e, zv_up_n e]
      exact hi i i0 (by omega)
  · rw [zv_up_n (show i ≠ n by omega), zv_up_n (show i ≠ n by omega)]
    by_cases e : j = n
    · subst e
      rw [zv_up_s, zv_up_s]
      exact fun q => nt ⟨i, i0, ij, q⟩
    · rw [zv_up_n e, zv_up_n e]
      exact hd i j i0 ij (by omega)
  · rw [zb_or, zb_or, zb_shl a0 (by omega), zb_shl b0 (by omega), Bool.or_eq_true, Bool.or_eq_true, decide_eq_true_eq, decide_eq_true_eq, hb]
    constructor
    · rintro (⟨i, i0, i1, q⟩ | q)
      · refine ⟨i, i0, by omega, ?_⟩
        rw [zv_up_n (by omega), zv_up_n (by omega)]
        exact q
      · refine ⟨n, n0, by omega, ?_⟩
        rw [zv_up_s, zv_up_s]
        omega
    · rintro ⟨i, i0, i1, q⟩
      by_cases e : i = n
      · subst e
        rw [zv_up_s, zv_up_s] at q
        exact .inr (by omega)
      · rw [zv_up_n e, zv_up_n e] at q
        exact .inl ⟨i, i0, by omega, q⟩
  · obtain ⟨hz2, hb2⟩ := hr c c0 c1
    have hc : ∀ d : Nat, (yt_ln (n + 1) (zv_up fr n a) (zv_up to n b) c d ↔ _) := fun d => yt_ln_up (a := a) (b := b) (fr := fr) (to := to) n0 (p := c) (q := d)
    by_cases e : c = b
    · subst e
      rw [zv_up_s, zv_up_n (Ne.symm ab)]
      refine ⟨z24_or hz2 (z24_shl a0 (by omega)), fun d => ?_⟩
      rw [hc d, zb_or, zb_shl a0 (by omega), Bool.or_eq_true, decide_eq_true_eq, hb2]
      constructor
      · rintro (q | q)
        · exact .inl q
        · exact .inr (.inr ⟨by omega, rfl⟩)
      · rintro (q | ⟨q, q2⟩ | ⟨q, q2⟩)
        · exact .inl q
        · exact absurd q ab
        · exact .inr (by omega)
    · rw [zv_up_n e]
      by_cases e2 : c = a
      · subst e2
        rw [zv_up_s]
        refine ⟨z24_or hz2 (z24_shl b0 (by omega)), fun d => ?_⟩
        rw [hc d, zb_or, zb_shl b0 (by omega), Bool.or_eq_true, decide_eq_true_eq, hb2]
        constructor
        · rintro (q | q)
          · exact .inl q
          · exact .inr (.inl ⟨rfl, by omega⟩)
        · rintro (q | ⟨q, q2⟩ | ⟨q, q2⟩)
          · exact .inl q
          · exact .inr (by omega)
          · exact absurd q2.symm e
      · rw [zv_up_n e2]
        refine ⟨hz2, fun d => ?_⟩
        rw [hc d, hb2]
        constructor
        · exact .inl
        · rintro (q | ⟨q, q2⟩ | ⟨q, q2⟩)
          · exact q
          · exact absurd q.symm e2
          · exact absurd q2.symm e
theorem yt_tw_l (h : yk_tl n nm nr fr to) : ∀ (d : Nat) (j : Int) (f : Nat), n - j ≤ d → 0 ≤ j → d < f → (zf_M_isTwice_l0 a b n fr to f j = some (.inl ()) ∧ ∀ i, j ≤ i → i < n → ¬ ((fr i = a ∧ to i = b) ∨ (fr i = b ∧ to i = a))) ∨ (zf_M_isTwice_l0 a b n fr to f j = some (.inr 1) ∧ ∃ i, j ≤ i ∧ i < n ∧ ((fr i = a ∧ to i = b) ∨ (fr i = b ∧ to i = a))) := by
  intro d
  induction d with
  | zero =>
    intro j f e j0 hf
    obtain ⟨f, rfl⟩ : ∃ q, f = q + 1 := ⟨f - 1, by omega⟩
    refine .inl ⟨?_, fun i _ _ => by omega⟩
    show zf_M_isTwice_l0_b a b n fr to (zf_M_isTwice_l0 a b n fr to f) j = _
    unfold zf_M_isTwice_l0_b
    rw [if_neg (by omega)]
  | succ d ih =>
    intro j f e j0 hf
    obtain ⟨f, rfl⟩ : ∃ q, f = q + 1 := ⟨f - 1, by omega⟩
    have hn := h.1
    show (zf_M_isTwice_l0_b a b n fr to (zf_M_isTwice_l0 a b n fr to f) j = _ ∧ _) ∨ (zf_M_isTwice_l0_b a b n fr to (zf_M_isTwice_l0 a b n fr to f) j = _ ∧ _)
    unfold zf_M_isTwice_l0_b
    by_cases q : j < n
    · rw [if_pos q, zl_ci j0 (by omega), zi_w_id (x := j + 1) (by omega) (by omega)]
      by_cases c : (fr j = a ∧ to j = b) ∨ (fr j = b ∧ to j = a)
      · refine .inr ⟨?_, j, Int.le_refl _, q, c⟩
        by_cases c1 : fr j = a
        · rw [if_pos c1]
          by_cases c2 : to j = b
          · rw [if_pos c2]
          · rw [if_neg c2]
            obtain ⟨c3, c4⟩ : fr j = b ∧ to j = a := by rcases c with c | c; exact absurd c.2 c2; exact c
            rw [if_pos c3, if_pos c4]
        · rw [if_neg c1]
          obtain ⟨c3, c4⟩ : fr j = b ∧ to j = a := by rcases c with c | c; exact absurd c.1 c1; exact c
          rw [if_pos c3, if_pos c4]
      · have nx := ih (j + 1) f (by omega) (by omega) (by omega)
        have go : (if fr j = a then (if to j = b then some (.inr 1) else (if fr j = b then (if to j = a then some (.inr 1) else zf_M_isTwice_l0 a b n fr to f (j + 1)) else zf_M_isTwice_l0 a b n fr to f (j + 1))) else (if fr j = b then (if to j = a then some (.inr 1) else zf_M_isTwice_l0 a b n fr to f (j + 1)) else zf_M_isTwice_l0 a b n fr to f (j + 1))) = zf_M_isTwice_l0 a b n fr to f (j + 1) := by
          (repeat' split) <;> first | rfl | (exfalso; apply c; omega)
        rw [go]
        rcases nx with ⟨e1, e2⟩ | ⟨e1, i, i0, i1, e2⟩
        · refine .inl ⟨e1, fun i i0 i1 => ?_⟩
          by_cases ei : i = j
          · subst ei; exact c
          · exact e2 i (by omega) i1
        · exact .inr ⟨e1, i, by omega, i1, e2⟩
    · rw [if_neg q]
      exact .inl ⟨rfl, fun i _ _ => by omega⟩
theorem yt_tw (h : yk_tl n nm nr fr to) : (zf_M_isTwice a b n fr to = some 0 ∧ ¬ yt_ln n fr to a b) ∨ (zf_M_isTwice a b n fr to = some 1 ∧ yt_ln n fr to a b) := by
  unfold zf_M_isTwice
  rcases yt_tw_l (a := a) (b := b) h 12 0 zi_fu (by have := h.1; omega) (by decide) (by decide) with ⟨e1, e2⟩ | ⟨e1, i, i0, i1, e2⟩
  · rw [e1, zl_b]
    exact .inl ⟨rfl, fun ⟨i, i0, i1, q⟩ => e2 i i0 i1 q⟩
  · rw [e1, zl_b]
    exact .inr ⟨rfl, i, i0, i1, e2⟩
theorem ze_nameAt (h1 : 0 ≤ p) (h2 : len ≤ 220) : zf_Tale_nameAt_220 len p T = some (yt_nm T len p) := by
  unfold zf_Tale_nameAt_220 yt_nm
  rw [if_neg (by omega)]
  by_cases q : p < len
  · rw [if_pos q, if_pos (by omega), zl_ci h1 (by omega)]
    by_cases c : T p < 65
    · rw [if_pos c, if_neg (by omega)]
    rw [if_neg c]
    by_cases c2 : 72 < T p
    · rw [if_pos c2, if_neg (by omega)]
    rw [if_neg c2, if_pos (by omega), zi_w_id (x := T p - 65) (by omega) (by omega)]
  · rw [if_neg q, if_neg (by omega)]
theorem ze_isName (hT : yk_T T M) (h1 : 0 ≤ p) (h2 : len ≤ 220) : zf_M_isName p len M = some (if yt_nm T len p = -1 then 0 else 1) := by
  unfold zf_M_isName
  rw [ze_here hT h1 h2, zl_b, ze_M_in, zl_b]
  unfold yp_pk yt_nm zs_in
  by_cases q : p < len ∧ 65 ≤ T p ∧ T p ≤ 72
  · rw [if_pos q.1, if_pos (show 65 ≤ T p ∧ T p ≤ 72 by omega), if_pos q, if_neg (show ¬ T p - 65 = -1 by omega), zl_c (zi_bo_of (by decide) (by decide))]
  · rw [if_neg q, if_pos rfl]
    by_cases c : p < len
    · rw [if_pos c, if_neg (show ¬ (65 ≤ T p ∧ T p ≤ 72) by omega), zl_c (zi_bo_of (by decide) (by decide))]
    · rw [if_neg c, if_neg (show ¬ ((65 : Int) ≤ -1 ∧ (-1 : Int) ≤ 72) by decide), zl_c (zi_bo_of (by decide) (by decide))]
end YTL
end
section
/-! A tale, read to its end: alike on both sides. -/
section YTR
variable {T M : Int → Int} {len : Int}
theorem yt_nm_in (p : Int) : -1 ≤ yt_nm T len p ∧ yt_nm T len p ≤ 7 := by
  unfold yt_nm
  split <;> omega
theorem yt_nm_pk {p : Int} (h : ¬ yt_nm T len p = -1) : p < len ∧ yp_pk T len p = yt_nm T len p + 65 := by
  unfold yt_nm at h ⊢
  by_cases q : p < len ∧ 65 ≤ T p ∧ T p ≤ 72
  · rw [if_pos q]
    refine ⟨q.1, ?_⟩
    unfold yp_pk
    rw [if_pos q.1]
    omega
  · rw [if_neg q] at h
    exact absurd rfl h
theorem ym_tl_0 {f : Nat} {p n flt : Int} {g1 g2 : Int → Int} : zf_M_tale_l0 len M (f + 1) 0 p n flt g1 g2 = some (0, p, n, flt, g1, g2) := by
  show zf_M_tale_l0_b len M (zf_M_tale_l0 len M f) 0 p n flt g1 g2 = _
  unfold zf_M_tale_l0_b
  rw [if_pos rfl]
def yt_K : ((Int × Int × Int × (Int → Int)) ⊕ (Int × Int × Int × (Int → Int))) → Option (Int × Int × Int × (Int → Int)) := fun q22 => Sum.elim (fun e23 => ((zf_X_faultAt 1 e23.1).bind fun r24 => (some (r24, e23.2.1, e23.2.2.1, e23.2.2.2)))) (fun w25 => some w25) q22
theorem zl_bo {α : Type} {x : Option α} {v : Int} : cond (zi_bo ((0 : Int), v).1) x none = x := rfl
theorem yt_K_l {p n nm : Int} {nr : Int → Int} (p0 : 0 ≤ p) (p1 : p ≤ 220) : yt_K (.inl (p, n, nm, nr)) = some (-1000 * 1 - p, n, nm, nr) := by
  unfold yt_K
  simp only [Sum.elim_inl]
  rw [ze_fault p0 p1 (by decide) (by decide), zl_b]
theorem yt_01 {p n flt : Int} {g1 g2 : Int → Int} {z : Int × Int × Int × Int × (Int → Int) × (Int → Int)} (h : zf_M_readsTaleLine p len n flt M g1 g2 = some z) : z.1 = 0 ∨ z.1 = 1 := by
  unfold zf_M_readsTaleLine zf_M_wrongAt at h
  obtain ⟨r1, -, h⟩ := Option.bind_eq_some_iff.mp h
  split at h
  · rw [zl_b, zl_bo] at h; cases h; exact .inl rfl
  split at h
  · rw [zl_b, zl_bo] at h; cases h; exact .inl rfl
  obtain ⟨r4, -, h⟩ := Option.bind_eq_some_iff.mp h
  obtain ⟨r5, -, h⟩ := Option.bind_eq_some_iff.mp h
  split at h
  · rw [zl_b, zl_bo] at h; cases h; exact .inl rfl
  obtain ⟨r7, -, h⟩ := Option.bind_eq_some_iff.mp h
  split at h
  · rw [zl_b, zl_bo] at h; cases h; exact .inl rfl
  obtain ⟨r9, -, h⟩ := Option.bind_eq_some_iff.mp h
  split at h
  · obtain ⟨-, h⟩ := zi_if h
    cases h; exact .inr rfl
  · rw [zl_b, zl_bo] at h; cases h; exact .inl rfl
theorem yt_read (hT : yk_T T M) (l1 : 1 ≤ len) (l2 : len ≤ 60) : ∀ (d : Nat) (p n nm flt : Int) (nr g1 g2 : Int → Int) (f f2 : Nat), len - p ≤ d → 0 ≤ p → p ≤ len → d < f → d + 1 < f2 → yk_tl n nm nr g1 g2 →
    ∃ r n' nm' nr' ok p' n2 flt' g1' g2', ((zf_Tale_read_220_l0 len T f p n nm nr).bind yt_K = some (r, n', nm', nr')) ∧
      ((zf_M_readsTaleLine p len n flt M g1 g2).bind fun r4 => zf_M_tale_l0 len M f2 r4.1 r4.2.1 r4.2.2.1 r4.2.2.2.1 r4.2.2.2.2.1 r4.2.2.2.2.2) = some (ok, p', n2, flt', g1', g2') ∧
      ((ok = 0 ∧ r = flt' ∧ r ≤ 0) ∨ (ok = 1 ∧ r = n2 ∧ n' = n2 ∧ 0 < r ∧ yk_tl n' nm' nr' g1' g2')) := by
  intro d
  induction d with
  | zero =>
    intro p n nm flt nr g1 g2 f f2 e p0 p1 hf hf2 h
    obtain ⟨f, rfl⟩ : ∃ q, f = q + 1 := ⟨f - 1, by omega⟩
    obtain ⟨f2, rfl⟩ : ∃ q, f2 = q + 1 := ⟨f2 - 1, by omega⟩
    have hnm : yt_nm T len p = -1 := by
      unfold yt_nm; rw [if_neg (by omega)]
    refine ⟨-1000 * 1 - p, n, nm, nr, 0, p, n, -1000 * 1 - p, g1, g2, ?_, ?_, .inl ⟨rfl, rfl, by omega⟩⟩
    · show ((zf_Tale_read_220_l0_b len T (zf_Tale_read_220_l0 len T f) p n nm nr).bind yt_K) = _
      unfold zf_Tale_read_220_l0_b
      rw [if_neg (by omega), zl_b]
      exact yt_K_l p0 (by omega)
    · unfold zf_M_readsTaleLine
      rw [ze_isName hT p0 (by omega), zl_b, if_pos hnm, if_pos rfl, ze_wrong p0 (by omega) (by decide) (by decide), zl_b, zl_bo, zl_b]
      exact ym_tl_0
  | succ d ih =>
    intro p n nm flt nr g1 g2 f f2 e p0 p1 hf hf2 h
    obtain ⟨f, rfl⟩ : ∃ q, f = q + 1 := ⟨f - 1, by omega⟩
    obtain ⟨f2, rfl⟩ : ∃ q, f2 = q + 1 := ⟨f2 - 1, by omega⟩
    obtain ⟨⟨n0, n1⟩, -, -, -, -, hr⟩ := id h
    have ha := yt_nm_in (T := T) (len := len) p
    have hb := yt_nm_in (T := T) (len := len) (p + 1)
    show ∃ r n' nm' nr' ok p' n2 flt' g1' g2', ((zf_Tale_read_220_l0_b len T (zf_Tale_read_220_l0 len T f) p n nm nr).bind yt_K = _) ∧ _
    unfold zf_Tale_read_220_l0_b zf_M_readsTaleLine
    by_cases q : ¬ p < len
    · have hnm : yt_nm T len p = -1 := by
        unfold yt_nm; rw [if_neg (by omega)]
      rw [if_neg q, zl_b, ze_isName hT p0 (by omega), zl_b, if_pos hnm, if_pos rfl, ze_wrong p0 (by omega) (by decide) (by decide), zl_b, zl_bo, zl_b]
      exact ⟨-1000 * 1 - p, n, nm, nr, 0, p, n, -1000 * 1 - p, g1, g2, yt_K_l p0 (by omega), ym_tl_0, .inl ⟨rfl, rfl, by omega⟩⟩
    have q : p < len := by omega
    rw [if_pos q, if_neg (show ¬ 12 < n by omega), ze_nameAt p0 (by omega), zl_b, ze_isName hT p0 (by omega), zl_b]
    by_cases c1 : yt_nm T len p = -1
    · rw [if_pos c1, if_pos c1, if_pos rfl, ze_fault p0 (by omega) (by decide) (by decide), zl_b, zl_b, ze_wrong p0 (by omega) (by decide) (by decide), zl_b, zl_bo, zl_b]
      exact ⟨-1000 * 1 - p, n, nm, nr, 0, p, n, -1000 * 1 - p, g1, g2, rfl, ym_tl_0, .inl ⟨rfl, rfl, by omega⟩⟩
    rw [if_neg c1, if_neg c1, if_neg (show ¬ (1 : Int) = 0 by decide)]
    by_cases c2 : n = 12
    · rw [if_pos c2, if_pos c2, ze_fault p0 (by omega) (by decide) (by decide), zl_b, zl_b, ze_wrong p0 (by omega) (by decide) (by decide), zl_b, zl_bo, zl_b]
      exact ⟨-1000 * 4 - p, n, nm, nr, 0, p, n, -1000 * 4 - p, g1, g2, rfl, ym_tl_0, .inl ⟨rfl, rfl, by omega⟩⟩
    rw [if_neg c2, if_neg c2, ze_here hT p0 (by omega), zl_b, zi_w_id (x := p + 1) (by omega) (by omega), ze_nameAt (show 0 ≤ p + 1 by omega) (by omega), zl_b, ze_isName hT (show 0 ≤ p + 1 by omega) (by omega), zl_b]
    by_cases c3 : yt_nm T len (p + 1) = -1
    · rw [if_pos c3, if_pos c3, if_pos rfl, ze_fault (show 0 ≤ p + 1 by omega) (by omega) (by decide) (by decide), zl_b, zl_b, ze_wrong (show 0 ≤ p + 1 by omega) (by omega) (by decide) (by decide), zl_b, zl_bo, zl_b]
      exact ⟨-1000 * 1 - (p + 1), n, nm, nr, 0, p + 1, n, -1000 * 1 - (p + 1), g1, g2, rfl, ym_tl_0, .inl ⟨rfl, rfl, by omega⟩⟩
    obtain ⟨-, pk1⟩ := yt_nm_pk c1
    obtain ⟨q2, pk2⟩ := yt_nm_pk c3
    rw [if_neg c3, if_neg c3, if_neg (show ¬ (1 : Int) = 0 by decide), ze_here hT (show 0 ≤ p + 1 by omega) (by omega), zl_b, pk1, pk2, zi_w_id (x := yt_nm T len p + 65 - 65) (by omega) (by omega), zi_w_id (x := yt_nm T len (p + 1) + 65 - 65) (by omega) (by omega), Int.add_sub_cancel, Int.add_sub_cancel]
    by_cases c4 : yt_nm T len (p + 1) = yt_nm T len p
    · rw [if_pos c4, if_pos c4.symm, ze_fault (show 0 ≤ p + 1 by omega) (by omega) (by decide) (by decide), zl_b, zl_b, ze_wrong (show 0 ≤ p + 1 by omega) (by omega) (by decide) (by decide), zl_b, zl_bo, zl_b]
      exact ⟨-1000 * 3 - (p + 1), n, nm, nr, 0, p + 1, n, -1000 * 3 - (p + 1), g1, g2, rfl, ym_tl_0, .inl ⟨rfl, rfl, by omega⟩⟩
    rw [if_neg c4, if_neg (show ¬ yt_nm T len p = yt_nm T len (p + 1) from fun w => c4 w.symm), zl_ci (show 0 ≤ yt_nm T len p by omega) (by omega), zb_bit (show 0 ≤ yt_nm T len (p + 1) by omega) (by omega)]
    have hbit := (hr (yt_nm T len p) (by omega) (by omega)).2 (yt_nm T len (p + 1)).toNat
    rw [Int.toNat_of_nonneg (by omega)] at hbit
    rcases yt_tw (a := yt_nm T len p) (b := yt_nm T len (p + 1)) h with ⟨e1, nt⟩ | ⟨e1, nt⟩
    rotate_left
    · rw [e1, zl_b, if_neg (show ¬ (1 : Int) = 0 by decide), if_pos (hbit.mpr nt), if_neg (show ¬ (1 : Int) = 0 by decide), ze_fault p0 (by omega) (by decide) (by decide), zl_b, zl_b, ze_wrong p0 (by omega) (by decide) (by decide), zl_b, zl_bo, zl_b]
      exact ⟨-1000 * 6 - p, n, nm, nr, 0, p + 1, n, -1000 * 6 - p, g1, g2, rfl, ym_tl_0, .inl ⟨rfl, rfl, by omega⟩⟩
    rw [e1, zl_b, if_pos rfl, if_neg (fun w => nt (hbit.mp w)), if_pos rfl, zl_ci n0 (by omega), zl_b]
    have hadd := yk_tl_add h (a := yt_nm T len p) (b := yt_nm T len (p + 1)) (by omega) (by omega) (by omega) (by omega) (by omega) (fun w => c4 w.symm) nt
    unfold zf_Tale_addLine
    rw [zl_ci (by omega) (by omega), zl_ci (by omega) (by omega), zl_b, zi_w_id (x := n + 1) (by omega) (by omega), zi_w_id (x := p + 1 + 1) (by omega) (by omega), zi_w_id (x := p + 2) (by omega) (by omega)]
    dsimp only
    obtain ⟨f2, rfl⟩ : ∃ q, f2 = q + 1 := ⟨f2 - 1, by omega⟩
    show ∃ r n' nm' nr' ok p' n2 flt' g1' g2', _ ∧ zf_M_tale_l0_b len M (zf_M_tale_l0 len M (f2 + 1)) 1 (p + 1 + 1) (n + 1) flt _ _ = _ ∧ _
    unfold zf_M_tale_l0_b
    rw [if_neg (show ¬ (1 : Int) = 0 by decide), show p + 1 + 1 = p + 2 by omega]
    by_cases c5 : p + 2 = len
    · rw [if_pos c5, if_neg (by omega), zl_b]
      exact ⟨n + 1, n + 1, _, _, 1, p + 2, n + 1, flt, _, _, rfl, rfl, .inr ⟨rfl, rfl, rfl, by omega, hadd⟩⟩
    rw [if_neg c5, if_pos (show p + 2 < len by omega), zl_ci (by omega) (by omega)]
    unfold zf_M_takes
    rw [ze_here hT (show 0 ≤ p + 2 by omega) (by omega), zl_b]
    have pk : yp_pk T len (p + 2) = T (p + 2) := if_pos (by omega)
    rw [pk]
    by_cases c6 : T (p + 2) = 59
    · rw [if_pos c6, if_pos c6, zl_b, if_neg (show ¬ (1 : Int) = 0 by decide), zi_w_id (x := p + 2 + 1) (by omega) (by omega)]
      dsimp only
      obtain ⟨r, n', nm', nr', ok, p', n2, flt', g1', g2', x1, x2, x3⟩ := ih (p + 2 + 1) (n + 1) _ flt _ _ _ f (f2 + 1) (by omega) (by omega) (by omega) (by omega) (by omega) hadd
      refine ⟨r, n', nm', nr', ok, p', n2, flt', g1', g2', x1, ?_, x3⟩
      rw [← x2]
      generalize hz : zf_M_readsTaleLine (p + 2 + 1) len (n + 1) flt M (zv_up g1 n (yt_nm T len p)) (zv_up g2 n (yt_nm T len (p + 1))) = z
      cases z with
      | none => rfl
      | some z =>
        rw [zl_b, zl_b]
        rcases yt_01 hz with c | c
        · rw [if_pos c, c]
        · rw [if_neg (by rw [c]; decide), c]
    · rw [if_neg c6, if_neg c6, ze_fault (show 0 ≤ p + 2 by omega) (by omega) (by decide) (by decide), zl_b, zl_b, ze_wrong (show 0 ≤ p + 2 by omega) (by omega) (by decide) (by decide), zl_b, zl_bo, zl_b, if_pos rfl]
      exact ⟨-1000 * 1 - (p + 2), n + 1, _, _, 0, p + 2, n + 1, -1000 * 1 - (p + 2), _, _, rfl, ym_tl_0, .inl ⟨rfl, rfl, by omega⟩⟩
end YTR
end
section
/-! tale: alike on both sides. -/
section YTE
variable {T M : Int → Int}
theorem ze_fill8_l0 {v : Int} : ∀ (d : Nat) (j : Int) (g : Int → Int) (n : Nat), j + d = 8 → 0 ≤ j → d < n → ∃ g2, zf_Arrays_fill_8_l0 v 8 n j g = some g2 ∧ (∀ i, j ≤ i → i < 8 → g2 i = v) ∧ ∀ i, i < j → g2 i = g i := by
  intro d
  induction d with
  | zero =>
    intro j g n e _ hn
    obtain ⟨n, rfl⟩ : ∃ q, n = q + 1 := ⟨n - 1, by omega⟩
    refine ⟨g, ?_, fun i _ _ => by omega, fun _ _ => rfl⟩
    show zf_Arrays_fill_8_l0_b v 8 (zf_Arrays_fill_8_l0 v 8 n) j g = _
    unfold zf_Arrays_fill_8_l0_b
    rw [if_neg (by omega)]
  | succ d ih =>
    intro j g n e j0 hn
    obtain ⟨n, rfl⟩ : ∃ q, n = q + 1 := ⟨n - 1, by omega⟩
    obtain ⟨g2, e1, a, b⟩ := ih (j + 1) (zv_up g j v) n (by omega) (by omega) (by omega)
    refine ⟨g2, ?_, fun i i1 i2 => ?_, fun i i1 => ?_⟩
    · show zf_Arrays_fill_8_l0_b v 8 (zf_Arrays_fill_8_l0 v 8 n) j g = _
      unfold zf_Arrays_fill_8_l0_b
      rw [if_pos (by omega), zl_ci j0 (by omega), zi_w_id (x := j + 1) (by omega) (by omega), e1]
    · by_cases q : i = j
      · subst q
        rw [b i (by omega), zv_up_s]
      · exact a i (by omega) i2
    · rw [b i (by omega), zv_up_n (by omega)]
theorem ze_fill8 {v : Int} {g : Int → Int} : ∃ g2, zf_Arrays_fill_8 v g = some g2 ∧ ∀ i, 0 ≤ i → i < 8 → g2 i = v := by
  obtain ⟨g2, e1, a, -⟩ := ze_fill8_l0 (v := v) 8 0 g zi_fu (by decide) (by decide) (by decide)
  refine ⟨g2, ?_, a⟩
  unfold zf_Arrays_fill_8
  rw [e1]; rfl
theorem yk_tl_0 {nr fr to : Int → Int} (h : ∀ i, 0 ≤ i → i < 8 → nr i = 0) : yk_tl 0 0 nr fr to := by
  refine ⟨⟨by decide, by decide⟩, fun i _ _ => by omega, fun i j _ _ _ => by omega, z24_0, fun b => ?_, fun a a0 a1 => ?_⟩
  · rw [zb_0]
    exact ⟨fun h => (by cases h), fun ⟨i, _, _, _⟩ => (by omega)⟩
  · rw [h a a0 a1]
    refine ⟨z24_0, fun b => ?_⟩
    rw [zb_0]
    exact ⟨fun h => (by cases h), fun ⟨i, _, _, _⟩ => (by omega)⟩
theorem yt_cp_l {n nm : Int} {nr fr to : Int → Int} (h : yk_tl n nm nr fr to) : ∀ (d : Nat) (j s : Int) (g3 g4 : Int → Int) (f : Nat), j + d = n → 0 ≤ j → d < f → z24 s → (∀ b : Nat, zb s b = true ↔ ∃ i, 0 ≤ i ∧ i < j ∧ (fr i = b ∨ to i = b)) → (∀ i, 0 ≤ i → i < j → g3 i = fr i ∧ g4 i = to i) →
    ∃ g3' g4', zf_M_tale_l1 n fr to f j s g3 g4 = some (nm, g3', g4') ∧ ∀ i, 0 ≤ i → i < n → g3' i = fr i ∧ g4' i = to i := by
  obtain ⟨⟨n0, n1⟩, hi, -, hz, hb, -⟩ := id h
  intro d
  induction d with
  | zero =>
    intro j s g3 g4 f e j0 hf sz sb gg
    obtain ⟨f, rfl⟩ : ∃ q, f = q + 1 := ⟨f - 1, by omega⟩
    obtain rfl : j = n := by omega
    have es : s = nm := z24_ext sz hz fun b _ => by
      rw [Bool.eq_iff_iff, sb, hb]
    refine ⟨g3, g4, ?_, gg⟩
    show zf_M_tale_l1_b j fr to (zf_M_tale_l1 j fr to f) j s g3 g4 = _
    unfold zf_M_tale_l1_b
    rw [if_neg (by omega), es]
  | succ d ih =>
    intro j s g3 g4 f e j0 hf sz sb gg
    obtain ⟨f, rfl⟩ : ∃ q, f = q + 1 := ⟨f - 1, by omega⟩
    obtain ⟨⟨a0, a1⟩, ⟨b0, b1⟩, -⟩ := hi j j0 (by omega)
    obtain ⟨g3', g4', e1, e2⟩ := ih (j + 1) (zi_or (zi_or s (zi_shl 1 (fr j))) (zi_shl 1 (to j))) (zv_up g3 j (fr j)) (zv_up g4 j (to j)) f (by omega) (by omega) (by omega) (z24_or (z24_or sz (z24_shl a0 (by omega))) (z24_shl b0 (by omega))) (fun b => by
      rw [zb_or, zb_or, zb_shl a0 (by omega), zb_shl b0 (by omega), Bool.or_eq_true, Bool.or_eq_true, decide_eq_true_eq, decide_eq_true_eq, sb]
      constructor
      · rintro ((⟨i, i0, i1, q⟩ | q) | q)
        · exact ⟨i, i0, by omega, q⟩
        · exact ⟨j, j0, by omega, by omega⟩
        · exact ⟨j, j0, by omega, by omega⟩
      · rintro ⟨i, i0, i1, q⟩
        by_cases ei : i = j
        · subst ei
          rcases q with q | q
          · exact .inl (.inr (by omega))
          · exact .inr (by omega)
        · exact .inl (.inl ⟨i, i0, by omega, q⟩)) (fun i i0 i1 => by
      by_cases ei : i = j
      · subst ei
        rw [zv_up_s, zv_up_s]
        exact ⟨rfl, rfl⟩
      · rw [zv_up_n ei, zv_up_n ei]
        exact gg i i0 (by omega))
    refine ⟨g3', g4', ?_, e2⟩
    show zf_M_tale_l1_b n fr to (zf_M_tale_l1 n fr to f) j s g3 g4 = _
    unfold zf_M_tale_l1_b
    rw [if_pos (by omega), zl_ci j0 (by omega), zi_w_id (x := j + 1) (by omega) (by omega), zv_up_s, zv_up_s, e1]
theorem yk_tl_cg {n nm : Int} {nr fr to fr2 to2 : Int → Int} (h : yk_tl n nm nr fr to) (e : ∀ i, 0 ≤ i → i < n → fr2 i = fr i ∧ to2 i = to i) : yk_tl n nm nr fr2 to2 := by
  obtain ⟨hn, hi, hd, hz, hb, hr⟩ := h
  refine ⟨hn, fun i i0 i1 => ?_, fun i j i0 ij j1 => ?_, hz, fun b => ?_, fun a a0 a1 => ⟨(hr a a0 a1).1, fun b => ?_⟩⟩
  · rw [(e i i0 i1).1, (e i i0 i1).2]; exact hi i i0 i1
  · rw [(e i i0 (by omega)).1, (e i i0 (by omega)).2, (e j (by omega) j1).1, (e j (by omega) j1).2]
    exact hd i j i0 ij j1
  · rw [hb]
    constructor
    · rintro ⟨i, i0, i1, q⟩; exact ⟨i, i0, i1, by rw [(e i i0 i1).1, (e i i0 i1).2]; exact q⟩
    · rintro ⟨i, i0, i1, q⟩; exact ⟨i, i0, i1, by rw [(e i i0 i1).1, (e i i0 i1).2] at q; exact q⟩
  · rw [(hr a a0 a1).2]
    constructor
    · rintro ⟨i, i0, i1, q⟩; exact ⟨i, i0, i1, by rw [(e i i0 i1).1, (e i i0 i1).2]; exact q⟩
    · rintro ⟨i, i0, i1, q⟩; exact ⟨i, i0, i1, by rw [(e i i0 i1).1, (e i i0 i1).2] at q; exact q⟩
theorem yo_tale {x n n2 f2 f3 p0 l0 nl flt tl ni : Int} {g1 s1 s2 fr to : Int → Int} (p : yk_tape n n2 T M) :
    ∃ r n' n2' a b c i j p0' l0' nl' flt' tl' ni' s1' s2' fr' to', zf_X_tale x n f2 f3 T g1 = some (r, n', a, b, c, i, j) ∧ zf_M_tale x n2 p0 l0 nl flt tl ni M s1 s2 fr to = some (r, n2', p0', l0', nl', flt', tl', ni', s1', s2', fr', to') ∧ yk_tape n' n2' T M ∧
      ((i = 2 ∧ j = 5 ∧ tl' = tl ∧ ni' = ni ∧ fr' = fr ∧ to' = to) ∨ (i = 5 ∧ j = 2 ∧ tl' = a ∧ ni' = b ∧ yk_tl a b c fr' to')) := by
  obtain ⟨rfl, n0, n1, hT⟩ := id p
  unfold zf_X_tale zf_M_tale
  rw [ze_X_isWithin, ze_M_in, zl_b, zl_b]
  by_cases q : zs_in x 1 60 = 0
  · rw [if_pos q, if_pos q]
    exact ⟨-1, n2, n2, f2, f3, g1, 2, 5, p0, l0, nl, flt, tl, ni, s1, s2, fr, to, rfl, rfl, p, .inl ⟨rfl, rfl, rfl, rfl, rfl, rfl⟩⟩
  rw [if_neg q, if_neg q]
  obtain ⟨x1, x2⟩ := zs_in_ne q
  unfold zf_Tape_take
  by_cases c : n2 < x
  · rw [if_pos c, if_pos c, zl_b, if_pos rfl]
    exact ⟨-1, n2, n2, f2, f3, g1, 2, 5, p0, l0, nl, flt, tl, ni, s1, s2, fr, to, rfl, rfl, p, .inl ⟨rfl, rfl, rfl, rfl, rfl, rfl⟩⟩
  rw [if_neg c, if_neg c, zl_b, if_neg (show ¬ (1 : Int) = 0 by decide)]
  have pp : yk_tape 0 0 T M := ⟨rfl, by decide, by decide, hT⟩
  obtain ⟨nr0, ef, hz⟩ := ze_fill8 (v := 0) (g := g1)
  obtain ⟨r, a, b, cc, ok, p', nn, flt', s1', s2', e1, e2, e3⟩ := yt_read hT x1 x2 60 0 0 0 flt nr0 s1 s2 zi_fu zi_fu (by omega) (by decide) (by omega) (by decide) (by decide) (yk_tl_0 hz)
  unfold zf_Tale_read_220
  rw [ef, zl_b]
  have e1' : ((zf_Tale_read_220_l0 x T zi_fu 0 0 0 nr0).bind fun q22 => Sum.elim (fun e23 => ((zf_X_faultAt 1 e23.1).bind fun r24 => (some (r24, e23.2.1, e23.2.2.1, e23.2.2.2)))) (fun w25 => some w25) q22) = some (r, a, b, cc) := e1
  rw [e1', zl_b]
  have e2' : ∀ {γ : Type} (K : Int × Int × Int × Int × (Int → Int) × (Int → Int) → Option γ), ((zf_M_readsTaleLine 0 x 0 flt M s1 s2).bind fun r4 => (zf_M_tale_l0 x M zi_fu r4.1 r4.2.1 r4.2.2.1 r4.2.2.2.1 r4.2.2.2.2.1 r4.2.2.2.2.2).bind K) = K (ok, p', nn, flt', s1', s2') := fun K => by
    revert e2
    generalize zf_M_readsTaleLine 0 x 0 flt M s1 s2 = z
    intro e2
    cases z with
    | none => cases e2
    | some z =>
      rw [zl_b] at e2 ⊢
      rw [e2, zl_b]
  rw [e2']
  dsimp only
  rcases e3 with ⟨eo, er, hr⟩ | ⟨eo, er, ea, hr, ht⟩
  · rw [if_neg (show ¬ 0 < r by omega), if_pos eo]
    exact ⟨r, 0, 0, a, b, cc, 2, 5, p', x, nn, flt', tl, ni, s1', s2', fr, to, rfl, by rw [er], pp, .inl ⟨rfl, rfl, rfl, rfl, rfl, rfl⟩⟩
  · rw [if_pos hr, if_neg (show ¬ ok = 0 by omega)]
    rw [ea] at ht
    have hn := ht.1
    have hd0 : (nn.toNat : Int) = nn := by omega
    have hd1 : nn.toNat < zi_fu := Nat.lt_of_le_of_lt (show nn.toNat ≤ 12 by omega) (by decide)
    obtain ⟨g3', g4', e4, e5⟩ := yt_cp_l ht nn.toNat 0 0 fr to zi_fu (by omega) (by decide) hd1 z24_0 (fun b => by
      rw [zb_0]
      exact ⟨fun h => (by cases h), fun ⟨i, _, _, _⟩ => (by omega)⟩) (fun i _ _ => by omega)
    rw [e4, zl_b]
    exact ⟨r, 0, 0, a, b, cc, 5, 2, p', x, nn, flt', nn, b, s1', s2', g3', g4', rfl, by rw [er], pp, .inr ⟨rfl, rfl, ea.symm, rfl, by rw [ea]; exact yk_tl_cg ht e5⟩⟩
end YTE
end
section
/-! How many are in a set; the lowest of a set. -/
def yn_n (f : Nat → Bool) : Nat → Int
  | 0 => 0
  | n + 1 => yn_n f n + (if f n = true then 1 else 0)
section YLO
theorem yn_in {f : Nat → Bool} : ∀ n : Nat, 0 ≤ yn_n f n ∧ yn_n f n ≤ n
  | 0 => ⟨Int.le_refl _, Int.le_refl _⟩
  | n + 1 => by
    have := yn_in (f := f) n
    show 0 ≤ yn_n f n + (if f n = true then 1 else 0) ∧ yn_n f n + (if f n = true then 1 else 0) ≤ ((n + 1 : Nat) : Int)
    split <;> omega
theorem yn_eq {f g : Nat → Bool} : ∀ n : Nat, (∀ j, j < n → f j = g j) → yn_n f n = yn_n g n
  | 0, _ => rfl
  | n + 1, h => by
    show yn_n f n + (if f n = true then 1 else 0) = yn_n g n + (if g n = true then 1 else 0)
    rw [yn_eq n fun j hj => h j (by omega), h n (by omega)]
theorem yn_le {f g : Nat → Bool} : ∀ n : Nat, (∀ j, j < n → f j = true → g j = true) → yn_n f n ≤ yn_n g n
  | 0, _ => Int.le_refl _
  | n + 1, h => by
    show yn_n f n + (if f n = true then 1 else 0) ≤ yn_n g n + (if g n = true then 1 else 0)
    have a := yn_le n fun j hj => h j (by omega)
    have b := h n (by omega)
    by_cases c : f n = true
    · rw [if_pos c, if_pos (b c)]; omega
    · rw [if_neg c]; split <;> omega
theorem yn_lt {f g : Nat → Bool} {k : Nat} (fk : ¬ f k = true) (gk : g k = true) : ∀ n : Nat, k < n → (∀ j, j < n → f j = true → g j = true) → yn_n f n + 1 ≤ yn_n g n
  | 0, hk, _ => by omega
  | n + 1, hk, h => by
    show yn_n f n + (if f n = true then 1 else 0) + 1 ≤ yn_n g n + (if g n = true then 1 else 0)
    by_cases e : k = n
    · subst e
      have a := yn_le k fun j hj => h j (by omega)
      rw [if_neg fk, if_pos gk]; omega
    · have a := yn_lt fk gk n (by omega) fun j hj => h j (by omega)
      have b := h n (by omega)
      by_cases c : f n = true
      · rw [if_pos c, if_pos (b c)]; omega
      · rw [if_neg c]; split <;> omega
theorem yn_add {f g : Nat → Bool} {k : Nat} (fk : f k = false) (gk : g k = true) : ∀ n : Nat, k < n → (∀ j, j < n → j ≠ k → f j = g j) → yn_n g n = yn_n f n + 1
  | 0, hk, _ => by omega
  | n + 1, hk, h => by
    show yn_n g n + (if g n = true then 1 else 0) = yn_n f n + (if f n = true then 1 else 0) + 1
    by_cases e : k = n
    · subst e
      rw [yn_eq k fun j hj => h j (by omega) (by omega), fk, gk, if_pos rfl, if_neg (by decide)]; omega
    · rw [yn_add fk gk n (by omega) fun j hj => h j (by omega), h n (by omega) (fun q => e q.symm)]; omega
theorem yn_all {f : Nat → Bool} : ∀ n : Nat, yn_n f n = n → ∀ j, j < n → f j = true
  | 0, _, j, hj => by omega
  | n + 1, h, j, hj => by
    have h : yn_n f n + (if f n = true then 1 else 0) = ((n + 1 : Nat) : Int) := by rw [← h]; rfl
    have b := yn_in (f := f) n
    by_cases c : f n = true
    · rw [if_pos c] at h
      by_cases e : j = n
      · rw [e]; exact c
      · exact yn_all n (by omega) j (by omega)
    · rw [if_neg c] at h; omega
theorem yn_sum {t : Int} (h1 : 0 ≤ t) (h2 : t ≤ 2147483647) : ∀ n : Nat, zs_sum t n = yn_n (zb t) n
  | 0 => rfl
  | n + 1 => by
    show zs_sum t n + (if zi_tb t (n : Int) = true then 1 else 0) = yn_n (zb t) n + (if zb t n = true then 1 else 0)
    rw [yn_sum h1 h2 n, zb_tb2 h1 h2, Int.toNat_natCast]
theorem yn_low {f : Nat → Bool} : ∀ n : Nat, (∃ j, j < n ∧ f j = true) → ∃ r, r < n ∧ f r = true ∧ ∀ j, j < r → f j = false
  | 0, ⟨j, h, _⟩ => by omega
  | n + 1, ⟨j, h, hj⟩ => by
    by_cases q : ∃ j, j < n ∧ f j = true
    · obtain ⟨r, a, b, c⟩ := yn_low n q
      exact ⟨r, by omega, b, c⟩
    · have e : j = n := by
        by_cases e : j = n
        · exact e
        · exact absurd ⟨j, by omega, hj⟩ q
      subst e
      refine ⟨j, by omega, hj, fun i hi => ?_⟩
      cases c : f i
      · rfl
      · exact absurd ⟨i, hi, c⟩ q
theorem zb_neg {x : Int} (h1 : 0 ≤ x) (h2 : x ≤ 2147483647) {j : Nat} (hj : j < 32) : zb (zi_w (-x)) j = (zb x j ^^ decide (∃ i, i < j ∧ zb x i = true)) := by
  rw [zi_w_id (x := -x) (by omega) (by omega)]
  unfold zb
  have e : (Int32.ofInt (-x)).toBitVec = -(Int32.ofInt x).toBitVec := by
    rw [Int32.ofInt_neg]; rfl
  rw [e, BitVec.getLsbD_neg]
  simp [hj]
theorem ze_lowest {x : Int} (hx : z24 x) (h0 : x ≠ 0) : ∃ r : Nat, r < 24 ∧ zb x r = true ∧ zf_X_lowestOf x = some (r : Int) := by
  have hex : ∃ j, j < 24 ∧ zb x j = true := by
    by_cases q : ∃ j, j < 24 ∧ zb x j = true
    · exact q
    · refine absurd ((z24_z hx).mpr fun j hj => ?_) h0
      cases c : zb x j
      · rfl
      · exact absurd ⟨j, hj, c⟩ q
  obtain ⟨r, r1, r2, r3⟩ := yn_low 24 hex
  have hand : zi_and x (zi_w (-x)) = zi_shl 1 r := by
    refine z24_ext (z24_and hx) (z24_shl (by omega) (by omega)) fun j hj => ?_
    rw [zb_and, zb_neg hx.1 (by have := hx.2; omega) (by omega), zb_shl (by omega) (by omega), Int.toNat_natCast]
    by_cases e : j = r
    · subst e
      rw [r2, decide_eq_true (rfl : j = j)]
      have : ¬ ∃ i, i < j ∧ zb x i = true := fun ⟨i, a, b⟩ => by rw [r3 i a] at b; cases b
      rw [decide_eq_false this]; rfl
    · rw [decide_eq_false e]
      by_cases c : j < r
      · rw [r3 j c, Bool.false_and]
      · rw [decide_eq_true (⟨r, by omega, r2⟩ : ∃ i, i < j ∧ zb x i = true)]
        cases zb x j <;> rfl
  refine ⟨r, r1, r2, ?_⟩
  unfold zf_X_lowestOf
  have hd : ∀ k : Nat, k < 24 → zf_Integer_bitCount (zi_w (zi_shl 1 k - 1)) = some (k : Int) := by
    have hd2 : ∀ k : Nat, k < 24 → (0 ≤ zi_w (zi_shl 1 k - 1) ∧ zi_w (zi_shl 1 k - 1) < 16777216) ∧ zs_sum (zi_w (zi_shl 1 k - 1)) 24 = k := by decide +kernel
    intro k hk
    obtain ⟨⟨a, b⟩, c⟩ := hd2 k hk
    rw [ze_bitCount a b, c]
  rw [hand, hd r r1, zl_b]
end YLO
end
section
/-! The stars that lines lead to. -/
def yg_E (G : Int → Int) (u v : Int) (p q : Nat) : Bool := zb (G p) q && !(decide ((p : Int) = u ∧ (q : Int) = v) || decide ((p : Int) = v ∧ (q : Int) = u))
def yg_sh (E : Nat → Nat → Bool) (S : Nat → Bool) : Prop := ∀ p q, p < 24 → q < 24 → S p = true → E p q = true → S q = true
def yg_re (E : Nat → Nat → Bool) (a : Nat) (s : Int) : Prop := z24 s ∧ zb s a = true ∧ yg_sh E (zb s) ∧ ∀ S : Nat → Bool, S a = true → yg_sh E S → ∀ j, j < 24 → zb s j = true → S j = true
theorem yg_re_eq {E : Nat → Nat → Bool} {a : Nat} {s s2 : Int} (h : yg_re E a s) (k : yg_re E a s2) : s = s2 := by
  refine z24_ext h.1 k.1 fun j hj => ?_
  have x := h.2.2.2 (zb s2) k.2.1 k.2.2.1 j hj
  have y := k.2.2.2 (zb s) h.2.1 h.2.2.1 j hj
  cases a : zb s j <;> cases b : zb s2 j
  · rfl
  · rw [a] at y; exact absurd (y b) (by decide)
  · rw [b] at x; exact absurd (x a) (by decide)
  · rfl
section YRE
variable {G : Int → Int} {u v : Int} {a : Nat}
theorem yg_step {fo td row : Int} {E : Nat → Nat → Bool} {r : Nat} (r1 : r < 24) (hr : zb td r = true) (zf : z24 fo) (zt : z24 td) (zr : z24 row) (hrow : ∀ q, q < 24 → zb row q = E r q)
    (sub : ∀ j, zb td j = true → zb fo j = true) (ha : zb fo a = true) (hm : ∀ S : Nat → Bool, S a = true → yg_sh E S → ∀ j, j < 24 → zb fo j = true → S j = true)
    (hc : ∀ p q, p < 24 → q < 24 → zb fo p = true → ¬ zb td p = true → E p q = true → zb fo q = true) {i : Int} (hi : yn_n (fun j => zb fo j && !zb td j) 24 = i) {fo2 td2 : Int} (ef : fo2 = zi_or fo row) (et : td2 = zi_and (zi_or td (zi_and row (zi_xor fo (-1)))) (zi_xor (zi_shl 1 r) (-1))) :
    z24 fo2 ∧ z24 td2 ∧ (∀ j, zb td2 j = true → zb fo2 j = true) ∧ zb fo2 a = true ∧ (∀ S : Nat → Bool, S a = true → yg_sh E S → ∀ j, j < 24 → zb fo2 j = true → S j = true) ∧
      (∀ p q, p < 24 → q < 24 → zb fo2 p = true → ¬ zb td2 p = true → E p q = true → zb fo2 q = true) ∧ yn_n (fun j => zb fo2 j && !zb td2 j) 24 = i + 1 := by
  have bf : ∀ j, zb fo2 j = (zb fo j || zb row j) := fun j => by rw [ef, zb_or]
  have bt : ∀ j, j < 24 → zb td2 j = ((zb td j || (zb row j && !zb fo j)) && !decide (j = r)) := fun j hj => by
    rw [et, zb_and, zb_or, zb_and, zb_not (by omega), zb_not (by omega), zb_shl (by omega) (by omega), Int.toNat_natCast]
  have z2 : z24 td2 := by rw [et]; exact z24_and (z24_or zt (z24_and zr))
  have zf2 : z24 fo2 := by rw [ef]; exact z24_or zf zr
  refine ⟨zf2, z2, fun j hj => ?_, by rw [bf, ha, Bool.true_or], fun S sa sc j hj hb => ?_, fun p q hp hq fp tp he => ?_, ?_⟩
  · by_cases h24 : j < 24
    · rw [bt j h24, Bool.and_eq_true, Bool.or_eq_true, Bool.and_eq_true] at hj
      rw [bf]
      rcases hj.1 with h | h
      · rw [sub j h, Bool.true_or]
      · rw [h.1, Bool.or_true]
    · rw [z24_b z2 (by omega)] at hj; cases hj
  · rw [bf, Bool.or_eq_true] at hb
    rcases hb with h | h
    · exact hm S sa sc j hj h
    · exact sc r j r1 hj (hm S sa sc r r1 (sub r hr)) (by rw [← hrow j hj]; exact h)
  · rw [bt p hp] at tp
    rw [bf] at fp ⊢
    by_cases e : p = r
    · subst e
      rw [hrow q hq, he, Bool.or_true]
    · rw [decide_eq_false e] at tp
      have : zb fo p = true ∧ ¬ zb td p = true := by
        cases x : zb fo p <;> cases y : zb td p <;> cases w : zb row p <;> rw [x, w] at fp <;> rw [x, y, w] at tp <;> first | exact ⟨rfl, by decide⟩ | exact absurd rfl tp | exact absurd fp (by decide) | skip
      rw [hc p q hp hq this.1 this.2 he, Bool.true_or]
  · rw [← hi]
    refine yn_add (k := r) ?_ ?_ 24 r1 fun j hj hn => ?_
    · show (zb fo r && !zb td r) = false
      rw [hr]; cases zb fo r <;> rfl
    · show (zb fo2 r && !zb td2 r) = true
      rw [bf, bt r r1, sub r hr, decide_eq_true (rfl : r = r)]
      cases zb td r <;> cases zb row r <;> rfl
    · show (zb fo j && !zb td j) = (zb fo2 j && !zb td2 j)
      rw [bf, bt j hj, decide_eq_false hn]
      have s := sub j
      cases x : zb fo j <;> cases y : zb td j <;> cases w : zb row j <;> first | rfl | (rw [x, y] at s; exact absurd (s rfl) (by decide))
theorem yx_reach_l (hG : ∀ j : Nat, j < 24 → z24 (G j)) (huv : (u = -1 ∧ v = -1) ∨ (0 ≤ u ∧ u < 24 ∧ 0 ≤ v ∧ v < 24)) : ∀ (d : Nat) (fo td i : Int) (n : Nat), i + d = 24 → 0 ≤ i → d < n → z24 fo → z24 td → (∀ j, zb td j = true → zb fo j = true) → zb fo a = true → (∀ S : Nat → Bool, S a = true → yg_sh (yg_E G u v) S → ∀ j, j < 24 → zb fo j = true → S j = true) →
    (∀ p q, p < 24 → q < 24 → zb fo p = true → ¬ zb td p = true → yg_E G u v p q = true → zb fo q = true) → yn_n (fun j => zb fo j && !zb td j) 24 = i → ∃ s, zf_View_reach_l0 u v G n fo td i = some s ∧ yg_re (yg_E G u v) a s := by
  intro d
  induction d with
  | zero =>
    intro fo td i n e i0 hn zf zt sub ha hm hc hi
    obtain ⟨n, rfl⟩ : ∃ q, n = q + 1 := ⟨n - 1, by omega⟩
    refine ⟨fo, ?_, zf, ha, fun p q hp hq fp he => ?_, hm⟩
    · show zf_View_reach_l0_b u v G (zf_View_reach_l0 u v G n) fo td i = _
      unfold zf_View_reach_l0_b
      rw [if_neg (by omega)]
    · have := yn_all 24 (by rw [hi]; omega) p hp
      refine hc p q hp hq fp (fun w => ?_) he
      have this : (zb fo p && !zb td p) = true := this
      rw [w, fp] at this
      cases this
  | succ d ih =>
    intro fo td i n e i0 hn zf zt sub ha hm hc hi
    obtain ⟨n, rfl⟩ : ∃ q, n = q + 1 := ⟨n - 1, by omega⟩
    show ∃ s, zf_View_reach_l0_b u v G (zf_View_reach_l0 u v G n) fo td i = _ ∧ _
    unfold zf_View_reach_l0_b
    rw [if_pos (by omega)]
    by_cases t0 : td = 0
    · rw [if_pos t0]
      refine ⟨fo, rfl, zf, ha, fun p q hp hq fp he => hc p q hp hq fp (by rw [t0, zb_0]; decide) he, hm⟩
    rw [if_neg t0]
    obtain ⟨r, r1, r2, r3⟩ := ze_lowest zt t0
    rw [r3, zl_b, zl_ci (by omega) (by omega), zi_w_id (x := i + 1) (by omega) (by omega)]
    have bit : ∀ w : Int, 0 ≤ w → w < 24 → ∀ q, q < 24 → zb (zi_and (G r) (zi_xor (zi_shl 1 w) (-1))) q = (zb (G r) q && !decide (q = w.toNat)) := fun w w1 w2 q hq => by
      rw [zb_and, zb_not (by omega), zb_shl w1 (by omega)]
    have fin : ∀ row fo2 td2 : Int, z24 row → (∀ q, q < 24 → zb row q = yg_E G u v r q) → fo2 = zi_or fo row → td2 = zi_and (zi_or td (zi_and row (zi_xor fo (-1)))) (zi_xor (zi_shl 1 r) (-1)) → ∃ s, zf_View_reach_l0 u v G n fo2 td2 (i + 1) = some s ∧ yg_re (yg_E G u v) a s := fun row fo2 td2 zr hrow ef et => by
      obtain ⟨a1, a2, a3, a4, a5, a6, a7⟩ := yg_step r1 r2 zf zt zr hrow sub ha hm hc hi ef et
      exact ih fo2 td2 (i + 1) n (by omega) (by omega) (by omega) a1 a2 a3 a4 a5 a6 a7
    by_cases c1 : (r : Int) = u
    · rw [if_pos c1]
      refine fin _ _ _ (z24_and (hG r r1)) (fun q hq => ?_) rfl rfl
      rw [bit v (by omega) (by omega) q hq]
      unfold yg_E
      by_cases e1 : q = v.toNat
      · rw [decide_eq_true e1, decide_eq_true (show (r : Int) = u ∧ (q : Int) = v by omega)]; simp
      · rw [decide_eq_false e1, decide_eq_false (show ¬ ((r : Int) = u ∧ (q : Int) = v) by omega)]
        by_cases e2 : (r : Int) = v ∧ (q : Int) = u
        · exact absurd e1 (by omega)
        · rw [decide_eq_false e2]; rfl
    rw [if_neg c1]
    by_cases c2 : (r : Int) = v
    · rw [if_pos c2]
      refine fin _ _ _ (z24_and (hG r r1)) (fun q hq => ?_) rfl rfl
      rw [bit u (by omega) (by omega) q hq]
      unfold yg_E
      rw [decide_eq_false (show ¬ ((r : Int) = u ∧ (q : Int) = v) by omega), Bool.false_or]
      by_cases e1 : q = u.toNat
      · rw [decide_eq_true e1, decide_eq_true (show (r : Int) = v ∧ (q : Int) = u by omega)]
      · rw [decide_eq_false e1, decide_eq_false (show ¬ ((r : Int) = v ∧ (q : Int) = u) by omega)]
    rw [if_neg c2]
    refine fin _ _ _ (hG r r1) (fun q hq => ?_) rfl rfl
    unfold yg_E
    rw [decide_eq_false (show ¬ ((r : Int) = u ∧ (q : Int) = v) by omega), decide_eq_false (show ¬ ((r : Int) = v ∧ (q : Int) = u) by omega)]
    simp
theorem yx_reach (hG : ∀ j : Nat, j < 24 → z24 (G j)) (huv : (u = -1 ∧ v = -1) ∨ (0 ≤ u ∧ u < 24 ∧ 0 ≤ v ∧ v < 24)) {x : Int} (x1 : 0 ≤ x) (x2 : x < 24) : ∃ s, zf_View_reach x u v G = some s ∧ yg_re (yg_E G u v) x.toNat s := by
  have bx : ∀ j, zb (zi_shl 1 x) j = decide (j = x.toNat) := fun j => zb_shl x1 (by omega)
  obtain ⟨s, e, h⟩ := yx_reach_l (a := x.toNat) hG huv 24 (zi_shl 1 x) (zi_shl 1 x) 0 zi_fu (by decide) (by decide) (by decide) (z24_shl x1 x2) (z24_shl x1 x2) (fun j h => h) (by rw [bx]; exact decide_eq_true rfl) (fun S sa _ j _ hj => by
    rw [bx, decide_eq_true_eq] at hj
    rw [hj]; exact sa) (fun p q _ _ fp tp => absurd fp tp) (by
    have : (fun j => zb (zi_shl 1 x) j && !zb (zi_shl 1 x) j) = fun _ => false := funext fun j => by cases zb (zi_shl 1 x) j <;> rfl
    rw [this]; decide)
  refine ⟨s, ?_, h⟩
  unfold zf_View_reach
  rw [e, zl_b]
end YRE
end
section
/-! figureOf: alike. -/
section YFG
variable {G : Int → Int} {a : Nat}
theorem yg_E_m1 {p q : Nat} : yg_E G (-1) (-1) p q = zb (G p) q := by
  unfold yg_E
  rw [decide_eq_false (show ¬ ((p : Int) = -1 ∧ (q : Int) = -1) by omega)]
  simp
theorem yg_re_cg {E F : Nat → Nat → Bool} (e : ∀ p q, p < 24 → q < 24 → E p q = F p q) {s : Int} (h : yg_re E a s) : yg_re F a s := by
  obtain ⟨h1, h2, h3, h4⟩ := h
  exact ⟨h1, h2, fun p q hp hq sp he => h3 p q hp hq sp (by rw [e p q hp hq]; exact he), fun S sa sc => h4 S sa fun p q hp hq sp he => sc p q hp hq sp (by rw [← e p q hp hq]; exact he)⟩
theorem ym_fig1 (hG : ∀ j : Nat, j < 24 → z24 (G j)) {c : Int} (hc : z24 c) : ∀ (d : Nat) (j : Nat) (x : Int) (n : Nat), j + d = 24 → d < n → z24 x → ∃ s, zf_M_figureOf_l1 c G n x (j : Int) = some s ∧ z24 s ∧ ∀ q, zb s q = true ↔ zb x q = true ∨ ∃ p, j ≤ p ∧ p < 24 ∧ zb c p = true ∧ zb (G p) q = true := by
  intro d
  induction d with
  | zero =>
    intro j x n e hn hx
    obtain ⟨n, rfl⟩ : ∃ q, n = q + 1 := ⟨n - 1, by omega⟩
    refine ⟨x, ?_, hx, fun q => ⟨.inl, fun h => ?_⟩⟩
    · show zf_M_figureOf_l1_b c G (zf_M_figureOf_l1 c G n) x (j : Int) = _
      unfold zf_M_figureOf_l1_b
      rw [if_neg (by omega)]
    · rcases h with h | ⟨p, p1, p2, _⟩
      · exact h
      · omega
  | succ d ih =>
    intro j x n e hn hx
    obtain ⟨n, rfl⟩ : ∃ q, n = q + 1 := ⟨n - 1, by omega⟩
    show ∃ s, zf_M_figureOf_l1_b c G (zf_M_figureOf_l1 c G n) x (j : Int) = _ ∧ _
    unfold zf_M_figureOf_l1_b
    rw [if_pos (by omega), ze_M_has hc.1 (by have := hc.2; omega) (by omega) (by omega), zl_b, zb_tb2 hc.1 (by have := hc.2; omega), Int.toNat_natCast, zi_w_id (x := (j : Int) + 1) (by omega) (by omega)]
    by_cases q : zb c j = true
    · rw [if_pos q, if_neg (by decide), zl_ci (by omega) (by omega)]
      obtain ⟨s, e1, e2, e3⟩ := ih (j + 1) (zi_or x (G j)) n (by omega) (by omega) (z24_or hx (hG j (by omega)))
      refine ⟨s, e1, e2, fun b => ?_⟩
      rw [e3, zb_or, Bool.or_eq_true]
      constructor
      · rintro ((h | h) | ⟨p, p1, p2, h⟩)
        · exact .inl h
        · exact .inr ⟨j, Nat.le_refl _, by omega, q, h⟩
        · exact .inr ⟨p, by omega, p2, h⟩
      · rintro (h | ⟨p, p1, p2, h1, h2⟩)
        · exact .inl (.inl h)
        · by_cases ep : p = j
          · subst ep; exact .inl (.inr h2)
          · exact .inr ⟨p, by omega, p2, h1, h2⟩
    · rw [if_neg q, if_pos rfl]
      obtain ⟨s, e1, e2, e3⟩ := ih (j + 1) x n (by omega) (by omega) hx
      refine ⟨s, e1, e2, fun b => ?_⟩
      rw [e3]
      constructor
      · rintro (h | ⟨p, p1, p2, h⟩)
        · exact .inl h
        · exact .inr ⟨p, by omega, p2, h⟩
      · rintro (h | ⟨p, p1, p2, h1, h2⟩)
        · exact .inl h
        · by_cases ep : p = j
          · subst ep; exact absurd h1 q
          · exact .inr ⟨p, by omega, p2, h1, h2⟩
theorem ym_fig0 (hG : ∀ j : Nat, j < 24 → z24 (G j)) : ∀ (d : Nat) (c pv : Int) (n : Nat), 24 - yn_n (zb pv) 24 ≤ d → d < n → z24 c → z24 pv → (∀ j, zb pv j = true → zb c j = true) → (∀ p q, p < 24 → q < 24 → zb pv p = true → zb (G p) q = true → zb c q = true) → zb c a = true → (∀ S : Nat → Bool, S a = true → yg_sh (yg_E G (-1) (-1)) S → ∀ j, j < 24 → zb c j = true → S j = true) →
    ∃ s, zf_M_figureOf_l0 G n c pv = some s ∧ yg_re (yg_E G (-1) (-1)) a s := by
  intro d
  induction d with
  | zero =>
    intro c pv n e hn hc hp sub st ha hm
    obtain ⟨n, rfl⟩ : ∃ q, n = q + 1 := ⟨n - 1, by omega⟩
    have al := yn_all 24 (f := zb pv) (by have := yn_in (f := zb pv) 24; omega)
    have ep : pv = c := z24_ext hp hc fun j hj => by rw [al j hj, sub j (al j hj)]
    refine ⟨c, ?_, hc, ha, fun p q hp2 hq2 sp he => st p q hp2 hq2 (al p hp2) (by rw [← yg_E_m1]; exact he), hm⟩
    show zf_M_figureOf_l0_b G (zf_M_figureOf_l0 G n) c pv = _
    unfold zf_M_figureOf_l0_b
    rw [if_pos ep]
  | succ d ih =>
    intro c pv n e hn hc hp sub st ha hm
    obtain ⟨n, rfl⟩ : ∃ q, n = q + 1 := ⟨n - 1, by omega⟩
    show ∃ s, zf_M_figureOf_l0_b G (zf_M_figureOf_l0 G n) c pv = _ ∧ _
    unfold zf_M_figureOf_l0_b
    by_cases q : pv = c
    · rw [if_pos q]
      refine ⟨c, rfl, hc, ha, fun p b hp2 hq2 sp he => st p b hp2 hq2 (by rw [q]; exact sp) (by rw [← yg_E_m1]; exact he), hm⟩
    rw [if_neg q]
    obtain ⟨s, e1, e2, e3⟩ := ym_fig1 hG hc 24 0 c zi_fu rfl (by decide) hc
    rw [show zf_M_figureOf_l1 c G zi_fu c 0 = _ from e1, zl_b]
    have hlt : yn_n (zb pv) 24 + 1 ≤ yn_n (zb c) 24 := by
      have hex : ∃ k, k < 24 ∧ ¬ zb pv k = true ∧ zb c k = true := by
        by_cases w : ∃ k, k < 24 ∧ ¬ zb pv k = true ∧ zb c k = true
        · exact w
        · refine absurd (z24_ext hp hc fun j hj => ?_) q
          cases x : zb pv j <;> cases y : zb c j
          · rfl
          · exact absurd ⟨j, hj, by rw [x]; decide, y⟩ w
          · rw [sub j x] at y; cases y
          · rfl
      obtain ⟨k, k1, k2, k3⟩ := hex
      exact yn_lt k2 k3 24 k1 fun j _ h => sub j h
    exact ih s c n (by omega) (by omega) e2 hc (fun j h => (e3 j).mpr (.inl h)) (fun p b hp2 _ sp he => (e3 b).mpr (.inr ⟨p, by omega, hp2, sp, he⟩)) ((e3 a).mpr (.inl ha)) (fun S sa sc j hj h => by
      rcases (e3 j).mp h with h | ⟨p, _, p2, h1, h2⟩
      · exact hm S sa sc j hj h
      · exact sc p j p2 hj (hm S sa sc p p2 h1) (by rw [yg_E_m1]; exact h2))
theorem ym_figureOf (hG : ∀ j : Nat, j < 24 → z24 (G j)) {x : Int} (x1 : 0 ≤ x) (x2 : x < 24) : ∃ s, zf_M_figureOf x G = some s ∧ yg_re (yg_E G (-1) (-1)) x.toNat s := by
  have bx : ∀ j, zb (zi_shl 1 x) j = decide (j = x.toNat) := fun j => zb_shl x1 (by omega)
  have z0 : yn_n (zb 0) 24 = 0 := by decide +kernel
  obtain ⟨s, e, h⟩ := ym_fig0 (a := x.toNat) hG 24 (zi_shl 1 x) 0 zi_fu (by omega) (by decide) (z24_shl x1 x2) z24_0 (fun j h => by rw [zb_0] at h; cases h) (fun p q _ _ h _ => by rw [zb_0] at h; cases h) (by rw [bx]; exact decide_eq_true rfl) (fun S sa _ j _ hj => by
    rw [bx, decide_eq_true_eq] at hj
    rw [hj]; exact sa)
  refine ⟨s, ?_, h⟩
  unfold zf_M_figureOf
  rw [e, zl_b]
/-- one figure, both ways -/
theorem yo_fig (hG : ∀ j : Nat, j < 24 → z24 (G j)) {x : Int} (x1 : 0 ≤ x) (x2 : x < 24) : ∃ s, zf_View_reach x (-1) (-1) G = some s ∧ zf_M_figureOf x G = some s ∧ yg_re (yg_E G (-1) (-1)) x.toNat s := by
  obtain ⟨s, e1, h1⟩ := yx_reach (u := -1) (v := -1) hG (.inl ⟨rfl, rfl⟩) x1 x2
  obtain ⟨s2, e2, h2⟩ := ym_figureOf hG x1 x2
  have := yg_re_eq h1 h2
  subst this
  exact ⟨s, e1, e2, h1⟩
end YFG
end
section
/-! Lines, figures, legs counted: alike on both sides. -/
section YSK
variable {G H : Int → Int} {s : Int}
theorem yo_fig2 (hG : ∀ j : Nat, j < 24 → z24 (G j)) (e : ∀ j : Nat, j < 24 → G j = H j) {x : Int} (x1 : 0 ≤ x) (x2 : x < 24) : ∃ s, zf_View_reach x (-1) (-1) G = some s ∧ zf_M_figureOf x H = some s ∧ yg_re (yg_E G (-1) (-1)) x.toNat s := by
  obtain ⟨s, e1, h1⟩ := yx_reach (u := -1) (v := -1) hG (.inl ⟨rfl, rfl⟩) x1 x2
  obtain ⟨s2, e2, h2⟩ := ym_figureOf (G := H) (fun j hj => by rw [← e j hj]; exact hG j hj) x1 x2
  have := yg_re_eq h1 (yg_re_cg (fun p q hp _ => by rw [yg_E_m1, yg_E_m1, e p hp]) h2)
  subst this
  exact ⟨s, e1, e2, h1⟩
theorem ze_bc {t : Int} (h : z24 t) : zf_Integer_bitCount t = some (zs_sum t 24) := ze_bitCount h.1 (by have := h.2; omega)
theorem ze_mb {t : Int} (h : z24 t) : zf_M_bits t = some (zs_sum t 24) := ze_M_bits h.1 (by have := h.2; omega)
theorem ze_mh {t : Int} (h : z24 t) {i : Int} (i1 : 0 ≤ i) (i2 : i < 24) : zf_M_has t i = some (if zb t i.toNat = true then 1 else 0) := by
  rw [ze_M_has h.1 (by have := h.2; omega) i1 (by omega), zb_tb2 h.1 (by have := h.2; omega)]
theorem ze_mm {a b : Int} : zf_M_max a b = some (if b < a then a else b) := by
  unfold zf_M_max
  split <;> rfl
theorem yo_figs_l (hG : ∀ j : Nat, j < 24 → z24 (G j)) (e : ∀ j : Nat, j < 24 → G j = H j) : ∀ (d : Nat) (i c mx l : Int) (n : Nat), i + d = 24 → 0 ≤ i → d < n → 0 ≤ c → c ≤ i → 0 ≤ mx → mx ≤ 24 → z24 l →
    ∃ c' mx', zf_View_countFigures_l0 G n c l i = some c' ∧ zf_View_largestFigure_l0 G n mx l i = some mx' ∧ zf_M_laysFigures_l0 H n l i c mx = some (c', mx') ∧ (0 ≤ c' ∧ c' ≤ 24) := by
  intro d
  induction d with
  | zero =>
    intro i c mx l n ei i0 hn c0 c1 m0 m1 zl
    obtain ⟨n, rfl⟩ : ∃ q, n = q + 1 := ⟨n - 1, by omega⟩
    refine ⟨c, mx, ?_, ?_, ?_, c0, by omega⟩
    · show zf_View_countFigures_l0_b G (zf_View_countFigures_l0 G n) c l i = _
      unfold zf_View_countFigures_l0_b
      rw [if_neg (by omega)]
    · show zf_View_largestFigure_l0_b G (zf_View_largestFigure_l0 G n) mx l i = _
      unfold zf_View_largestFigure_l0_b
      rw [if_neg (by omega)]
    · show zf_M_laysFigures_l0_b H (zf_M_laysFigures_l0 H n) l i c mx = _
      unfold zf_M_laysFigures_l0_b
      rw [if_neg (by omega)]
  | succ d ih =>
    intro i c mx l n ei i0 hn c0 c1 m0 m1 zl
    obtain ⟨n, rfl⟩ : ∃ q, n = q + 1 := ⟨n - 1, by omega⟩
    show ∃ c' mx', zf_View_countFigures_l0_b G (zf_View_countFigures_l0 G n) c l i = _ ∧ zf_View_largestFigure_l0_b G (zf_View_largestFigure_l0 G n) mx l i = _ ∧ zf_M_laysFigures_l0_b H (zf_M_laysFigures_l0 H n) l i c mx = _ ∧ _
    unfold zf_View_countFigures_l0_b zf_View_largestFigure_l0_b zf_M_laysFigures_l0_b
    rw [if_pos (show i < 24 by omega), if_pos (show i < 24 by omega), if_pos (show i < 24 by omega), ze_mh zl i0 (by omega), zl_b, zb_bit i0 (by omega), zi_w_id (x := i + 1) (by omega) (by omega)]
    by_cases q : zb l i.toNat = true
    · rw [if_pos q, if_neg (show ¬ (1 : Int) = 0 by decide), if_neg (show ¬ (1 : Int) = 0 by decide), if_neg (show ¬ (1 : Int) = 0 by decide)]
      obtain ⟨s, e1, e2, hs, -⟩ := yo_fig2 hG e i0 (by omega : i < 24)
      have bs := zs_sum_in (t := s) 24
      rw [e1, e2, zl_b, zl_b, zl_b, ze_bc hs, ze_mb hs, zl_b, zl_b, ze_Math_max, ze_mm, zl_b, zl_b, zi_w_id (x := c + 1) (by omega) (by omega)]
      have em : (if zs_sum s 24 < mx then mx else zs_sum s 24) = if mx < zs_sum s 24 then zs_sum s 24 else mx := by
        split <;> split <;> omega
      have hm : 0 ≤ (if mx < zs_sum s 24 then zs_sum s 24 else mx) ∧ (if mx < zs_sum s 24 then zs_sum s 24 else mx) ≤ 24 := by
        split <;> omega
      rw [em]
      exact ih (i + 1) (c + 1) (if mx < zs_sum s 24 then zs_sum s 24 else mx) _ n (by omega) (by omega) (by omega) (by omega) (by omega) hm.1 hm.2 (z24_and zl)
    · rw [if_neg q, if_pos rfl, if_pos rfl, if_pos rfl]
      exact ih (i + 1) c mx l n (by omega) (by omega) (by omega) c0 (by omega) m0 m1 zl
theorem yo_figs (hG : ∀ j : Nat, j < 24 → z24 (G j)) (e : ∀ j : Nat, j < 24 → G j = H j) (hs : z24 s) {f0 f1 : Int} : ∃ c mx, zf_View_countFigures s G = some c ∧ zf_View_largestFigure s G = some mx ∧ zf_M_laysFigures f0 f1 s H = some (c, mx) ∧ (0 ≤ c ∧ c ≤ 24) := by
  obtain ⟨c, mx, e1, e2, e3, h⟩ := yo_figs_l hG e 24 0 0 0 s zi_fu (by decide) (by decide) (by decide) (by decide) (by decide) (by decide) (by decide) hs
  refine ⟨c, mx, ?_, ?_, ?_, h⟩
  · unfold zf_View_countFigures
    rw [e1]; rfl
  · unfold zf_View_largestFigure
    rw [e2]; rfl
  · unfold zf_M_laysFigures
    rw [e3]; rfl
theorem yo_lines_l (hG : ∀ j : Nat, j < 24 → z24 (G j)) (e : ∀ j : Nat, j < 24 → G j = H j) : ∀ (d : Nat) (i c : Int) (n : Nat), i + d = 24 → 0 ≤ i → d < n → 0 ≤ c → c ≤ 24 * i → ∃ c', zf_View_countLines_l0 G n c i = some c' ∧ zf_M_lineMany_l0 H n c i = some c' ∧ 0 ≤ c' ∧ c' ≤ 576 := by
  intro d
  induction d with
  | zero =>
    intro i c n ei i0 hn c0 c1
    obtain ⟨n, rfl⟩ : ∃ q, n = q + 1 := ⟨n - 1, by omega⟩
    refine ⟨c, ?_, ?_, c0, by omega⟩
    · show zf_View_countLines_l0_b G (zf_View_countLines_l0 G n) c i = _
      unfold zf_View_countLines_l0_b
      rw [if_neg (by omega)]
    · show zf_M_lineMany_l0_b H (zf_M_lineMany_l0 H n) c i = _
      unfold zf_M_lineMany_l0_b
      rw [if_neg (by omega)]
  | succ d ih =>
    intro i c n ei i0 hn c0 c1
    obtain ⟨n, rfl⟩ : ∃ q, n = q + 1 := ⟨n - 1, by omega⟩
    have ez := hG i.toNat (by omega)
    have eh := e i.toNat (by omega)
    rw [Int.toNat_of_nonneg i0] at ez eh
    have bs := zs_sum_in (t := G i) 24
    show ∃ c', zf_View_countLines_l0_b G (zf_View_countLines_l0 G n) c i = _ ∧ zf_M_lineMany_l0_b H (zf_M_lineMany_l0 H n) c i = _ ∧ _
    unfold zf_View_countLines_l0_b zf_M_lineMany_l0_b
    rw [if_pos (show i < 24 by omega), if_pos (show i < 24 by omega), zl_ci i0 (by omega), zl_ci i0 (by omega), ← eh, ze_bc ez, ze_mb ez, zl_b, zl_b, zi_w_id (x := i + 1) (by omega) (by omega), zi_w_id (x := c + zs_sum (G i) 24) (by omega) (by omega)]
    exact ih (i + 1) _ n (by omega) (by omega) (by omega) (by omega) (by omega)
theorem yo_lines (hG : ∀ j : Nat, j < 24 → z24 (G j)) (e : ∀ j : Nat, j < 24 → G j = H j) : ∃ c, zf_View_countLines G = some c ∧ zf_M_lineMany H = some c ∧ 0 ≤ c ∧ c ≤ 288 := by
  obtain ⟨c, e1, e2, c0, c1⟩ := yo_lines_l hG e 24 0 0 zi_fu (by decide) (by decide) (by decide) (by decide) (by decide)
  have ed : zi_div c 2 = c / 2 := zi_div_eq c0 (by omega) (by decide) (by decide)
  refine ⟨c / 2, ?_, ?_, by omega, by omega⟩
  · unfold zf_View_countLines
    rw [e1, zl_b, ed]
  · unfold zf_M_lineMany
    rw [e2, zl_b, ed]
theorem yo_legs_l (hG : ∀ j : Nat, j < 24 → z24 (G j)) (e : ∀ j : Nat, j < 24 → G j = H j) (hs : z24 s) : ∀ (d : Nat) (i b : Int) (n : Nat), i + d = 24 → 0 ≤ i → d < n → -1 ≤ b → b < 24 → ∃ b', zf_View_mostLegged_l0 s G n b i = some b' ∧ zf_M_mostLegs_l0 s H n b i = some b' ∧ -1 ≤ b' ∧ b' < 24 := by
  intro d
  induction d with
  | zero =>
    intro i b n ei i0 hn b0 b1
    obtain ⟨n, rfl⟩ : ∃ q, n = q + 1 := ⟨n - 1, by omega⟩
    refine ⟨b, ?_, ?_, b0, b1⟩
    · show zf_View_mostLegged_l0_b s G (zf_View_mostLegged_l0 s G n) b i = _
      unfold zf_View_mostLegged_l0_b
      rw [if_neg (by omega)]
    · show zf_M_mostLegs_l0_b s H (zf_M_mostLegs_l0 s H n) b i = _
      unfold zf_M_mostLegs_l0_b
      rw [if_neg (by omega)]
  | succ d ih =>
    intro i b n ei i0 hn b0 b1
    obtain ⟨n, rfl⟩ : ∃ q, n = q + 1 := ⟨n - 1, by omega⟩
    have ez := hG i.toNat (by omega)
    have eh := e i.toNat (by omega)
    rw [Int.toNat_of_nonneg i0] at ez eh
    have nx : ∀ b2 : Int, -1 ≤ b2 → b2 < 24 → _ := fun b2 h1 h2 => ih (i + 1) b2 n (by omega) (by omega) (by omega) h1 h2
    show ∃ b', zf_View_mostLegged_l0_b s G (zf_View_mostLegged_l0 s G n) b i = _ ∧ zf_M_mostLegs_l0_b s H (zf_M_mostLegs_l0 s H n) b i = _ ∧ _
    unfold zf_View_mostLegged_l0_b zf_M_mostLegs_l0_b
    rw [if_pos (show i < 24 by omega), if_pos (show i < 24 by omega), ze_mh hs i0 (by omega), zl_b, zb_bit i0 (by omega), zi_w_id (x := i + 1) (by omega) (by omega)]
    by_cases q : zb s i.toNat = true
    · rw [if_pos q, if_neg (show ¬ (1 : Int) = 0 by decide), if_neg (show ¬ (1 : Int) = 0 by decide)]
      by_cases c : b = -1
      · rw [if_pos c, if_pos c]
        exact nx i (by omega) (by omega)
      rw [if_neg c, if_neg c]
      have fz := hG b.toNat (by omega)
      have fh := e b.toNat (by omega)
      rw [Int.toNat_of_nonneg (by omega)] at fz fh
      unfold zf_View_legsOf
      rw [if_neg (show ¬ i = -1 by omega), if_neg c, zl_ci i0 (by omega), zl_ci i0 (by omega), ← eh, ze_bc ez, ze_mb ez, zl_b, zl_b, zl_b, zl_ci (show 0 ≤ b by omega) (by omega), zl_ci (show 0 ≤ b by omega) (by omega), ← fh, ze_bc fz, ze_mb fz, zl_b, zl_b, zl_b]
      by_cases w : zs_sum (G b) 24 < zs_sum (G i) 24
      · rw [if_pos w, if_pos w]
        exact nx i (by omega) (by omega)
      · rw [if_neg w, if_neg w]
        exact nx b b0 b1
    · rw [if_neg q, if_pos rfl, if_pos rfl]
      exact nx b b0 b1
theorem yo_legs (hG : ∀ j : Nat, j < 24 → z24 (G j)) (e : ∀ j : Nat, j < 24 → G j = H j) (hs : z24 s) : ∃ b, zf_View_mostLegged s G = some b ∧ zf_M_mostLegs s H = some b ∧ -1 ≤ b ∧ b < 24 := by
  obtain ⟨b, e1, e2, h⟩ := yo_legs_l hG e hs 24 0 (-1) zi_fu (by decide) (by decide) (by decide) (by decide) (by decide)
  refine ⟨b, ?_, ?_, h⟩
  · unfold zf_View_mostLegged
    rw [e1]; rfl
  · unfold zf_M_mostLegs
    rw [e2]; rfl
end YSK
end
section
/-! Lines that hold: alike on both sides. -/
section YHO
variable {G H : Int → Int}
theorem zb_clr {x w : Int} (w1 : 0 ≤ w) (w2 : w < 24) {q : Nat} (hq : q < 24) : zb (zi_and x (zi_xor (zi_shl 1 w) (-1))) q = (zb x q && !decide (q = w.toNat)) := by
  rw [zb_and, zb_not (by omega), zb_shl w1 (by omega)]
theorem yh_back {x w : Int} (hx : z24 x) (w1 : 0 ≤ w) (w2 : w < 24) (hb : zb x w.toNat = true) : zi_or (zi_and x (zi_xor (zi_shl 1 w) (-1))) (zi_shl 1 w) = x := by
  refine z24_ext (z24_or (z24_and hx) (z24_shl w1 w2)) hx fun j hj => ?_
  rw [zb_or, zb_clr w1 w2 hj, zb_shl w1 (by omega)]
  by_cases e : j = w.toNat
  · rw [e, hb, decide_eq_true (rfl : w.toNat = w.toNat)]; rfl
  · rw [decide_eq_false e]; cases zb x j <;> rfl
theorem yo_hold1 (hG : ∀ j : Nat, j < 24 → z24 (G j)) (sym : ∀ p q : Nat, p < 24 → q < 24 → zb (G p) q = true → zb (G q) p = true) {i : Int} (i0 : 0 ≤ i) (i1 : i < 24) : ∀ (d : Nat) (j c : Int) (H : Int → Int) (n : Nat), j + d = 24 → i < j → d < n → 0 ≤ c → c ≤ 24 * i + j → (∀ p : Nat, p < 24 → G p = H p) →
    ∃ c' H', zf_View_countHolding_l1 i G n c j = some c' ∧ zf_M_holding_l1 i n c j H = some (c', H') ∧ (0 ≤ c' ∧ c' ≤ 24 * i + 24) ∧ ∀ p : Nat, p < 24 → G p = H' p := by
  intro d
  induction d with
  | zero =>
    intro j c H n e j0 hn c0 c1 eh
    obtain ⟨n, rfl⟩ : ∃ q, n = q + 1 := ⟨n - 1, by omega⟩
    refine ⟨c, H, ?_, ?_, ⟨c0, by omega⟩, eh⟩
    · show zf_View_countHolding_l1_b i G (zf_View_countHolding_l1 i G n) c j = _
      unfold zf_View_countHolding_l1_b
      rw [if_neg (by omega)]
    · show zf_M_holding_l1_b i (zf_M_holding_l1 i n) c j H = _
      unfold zf_M_holding_l1_b
      rw [if_neg (by omega)]
  | succ d ih =>
    intro j c H n e j0 hn c0 c1 eh
    obtain ⟨n, rfl⟩ : ∃ q, n = q + 1 := ⟨n - 1, by omega⟩
    have zi := hG i.toNat (by omega)
    have ei := eh i.toNat (by omega)
    rw [Int.toNat_of_nonneg i0] at zi ei
    have zj := hG j.toNat (by omega)
    have ej := eh j.toNat (by omega)
    rw [Int.toNat_of_nonneg (by omega)] at zj ej
    show ∃ c' H', zf_View_countHolding_l1_b i G (zf_View_countHolding_l1 i G n) c j = _ ∧ zf_M_holding_l1_b i (zf_M_holding_l1 i n) c j H = _ ∧ _
    unfold zf_View_countHolding_l1_b zf_M_holding_l1_b
    rw [if_pos (show j < 24 by omega), if_pos (show j < 24 by omega), zl_ci i0 (by omega), zl_ci i0 (by omega), ← ei, ze_mh zi (show 0 ≤ j by omega) (by omega), zl_b, zb_bit (show 0 ≤ j by omega) (by omega), zi_w_id (x := j + 1) (by omega) (by omega)]
    by_cases q : zb (G i) j.toNat = true
    · have q2 : zb (G j) i.toNat = true := by
        have := sym i.toNat j.toNat (by omega) (by omega) (by rw [Int.toNat_of_nonneg i0]; exact q)
        rwa [Int.toNat_of_nonneg (by omega)] at this
      rw [if_pos q, if_neg (show ¬ (1 : Int) = 0 by decide), if_neg (show ¬ (1 : Int) = 0 by decide), zl_ci (show 0 ≤ j by omega) (by omega)]
      have ne : i ≠ j := by omega
      obtain ⟨s, e1, h1⟩ := yx_reach (u := i) (v := j) hG (.inr ⟨i0, i1, by omega, by omega⟩) i0 i1
      obtain ⟨H2, hH2⟩ : ∃ H2, H2 = zv_up (zv_up H i (zi_and (G i) (zi_xor (zi_shl 1 j) (-1)))) j (zi_and ((zv_up H i (zi_and (G i) (zi_xor (zi_shl 1 j) (-1)))) j) (zi_xor (zi_shl 1 i) (-1))) := ⟨_, rfl⟩
      rw [← hH2]
      have h2i : H2 i = zi_and (G i) (zi_xor (zi_shl 1 j) (-1)) := by rw [hH2, zv_up_n ne, zv_up_s]
      have h2j : H2 j = zi_and (G j) (zi_xor (zi_shl 1 i) (-1)) := by rw [hH2, zv_up_s, zv_up_n (Ne.symm ne), ej]
      have h2o : ∀ p, p ≠ i → p ≠ j → H2 p = H p := fun p p1 p2 => by rw [hH2, zv_up_n p2, zv_up_n p1]
      have z2 : ∀ p : Nat, p < 24 → z24 (H2 p) := fun p hp => by
        by_cases a : (p : Int) = i
        · rw [a, h2i]; exact z24_and zi
        by_cases b : (p : Int) = j
        · rw [b, h2j]; exact z24_and zj
        rw [h2o _ a b, ← eh p hp]; exact hG p hp
      obtain ⟨s2, e2, h2⟩ := ym_figureOf z2 i0 i1
      have eE : ∀ p b, p < 24 → b < 24 → yg_E H2 (-1) (-1) p b = yg_E G i j p b := fun p b hp hb => by
        rw [yg_E_m1]
        unfold yg_E
        by_cases a : (p : Int) = i
        · rw [a, h2i, zb_clr (by omega) (by omega) hb, decide_eq_false (show ¬ (i = j ∧ (b : Int) = i) by omega), Bool.or_false]
          congr 2
          rw [decide_eq_decide]; omega
        by_cases c : (p : Int) = j
        · rw [c, h2j, zb_clr i0 i1 hb, decide_eq_false (show ¬ (j = i ∧ (b : Int) = j) by omega), Bool.false_or]
          congr 2
          rw [decide_eq_decide]; omega
        rw [h2o _ a c, ← eh p hp, decide_eq_false (show ¬ ((p : Int) = i ∧ (b : Int) = j) by omega), decide_eq_false (show ¬ ((p : Int) = j ∧ (b : Int) = i) by omega)]
        simp
      have es := yg_re_eq h1 (yg_re_cg eE h2)
      subst es
      have zs := h1.1
      rw [e1, e2, zl_b, zl_b, ze_mh zs (show 0 ≤ j by omega) (by omega), zl_b, zb_bit (show 0 ≤ j by omega) (by omega), h2i, yh_back zi (by omega) (by omega) q, zv_up_n (Ne.symm ne), h2j, yh_back zj i0 i1 q2]
      have eh2 : ∀ p : Nat, p < 24 → G p = zv_up (zv_up H2 i (G i)) j (G j) p := fun p hp => by
        by_cases b : (p : Int) = j
        · rw [b, zv_up_s]
        by_cases a : (p : Int) = i
        · rw [zv_up_n b, a, zv_up_s]
        rw [zv_up_n b, zv_up_n a, h2o _ a b]; exact eh p hp
      by_cases w : zb s j.toNat = true
      · rw [if_pos w, if_neg (show ¬ (1 : Int) = 0 by decide), if_neg (show ¬ (1 : Int) = 0 by decide), zi_w_id (x := c + 0) (by omega) (by omega), Int.add_zero]
        exact ih (j + 1) c _ n (by omega) (by omega) (by omega) c0 (by omega) eh2
      · rw [if_neg w, if_pos rfl, if_pos rfl, zi_w_id (x := c + 1) (by omega) (by omega)]
        exact ih (j + 1) (c + 1) _ n (by omega) (by omega) (by omega) (by omega) (by omega) eh2
    · rw [if_neg q, if_pos rfl, if_pos rfl]
      exact ih (j + 1) c H n (by omega) (by omega) (by omega) c0 (by omega) eh
end YHO
end
section
/-! sky and figure: alike on both sides. -/
section YSY
variable {G H : Int → Int}
theorem yv_il_sym {s : Int} {D : Nat → Nat → Bool} (h : yv_il s D G) : ∀ p q : Nat, p < 24 → q < 24 → zb (G p) q = true → zb (G q) p = true := fun p q hp hq hb => by
  rw [(h p hp).2, Bool.and_eq_true] at hb
  rw [(h q hq).2, Bool.and_eq_true]
  refine ⟨decide_eq_true hp, ?_⟩
  have := hb.2
  unfold yv_lk at this ⊢
  rw [Nat.min_comm q p, Nat.max_comm q p, Bool.and_comm (zb s q), ← this]
  congr 2
  rw [decide_eq_decide]
  exact ⟨fun h => Ne.symm h, fun h => Ne.symm h⟩
theorem yo_hold0 (hG : ∀ j : Nat, j < 24 → z24 (G j)) (sym : ∀ p q : Nat, p < 24 → q < 24 → zb (G p) q = true → zb (G q) p = true) : ∀ (d : Nat) (i c : Int) (H : Int → Int) (n : Nat), i + d = 24 → 0 ≤ i → d < n → 0 ≤ c → c ≤ 24 * i → (∀ p : Nat, p < 24 → G p = H p) →
    ∃ c' H', zf_View_countHolding_l0 G n c i = some c' ∧ zf_M_holding_l0 n c i H = some (c', H') := by
  intro d
  induction d with
  | zero =>
    intro i c H n e i0 hn c0 c1 eh
    obtain ⟨n, rfl⟩ : ∃ q, n = q + 1 := ⟨n - 1, by omega⟩
    refine ⟨c, H, ?_, ?_⟩
    · show zf_View_countHolding_l0_b G (zf_View_countHolding_l0 G n) c i = _
      unfold zf_View_countHolding_l0_b
      rw [if_neg (by omega)]
    · show zf_M_holding_l0_b (zf_M_holding_l0 n) c i H = _
      unfold zf_M_holding_l0_b
      rw [if_neg (by omega)]
  | succ d ih =>
    intro i c H n e i0 hn c0 c1 eh
    obtain ⟨n, rfl⟩ : ∃ q, n = q + 1 := ⟨n - 1, by omega⟩
    show ∃ c' H', zf_View_countHolding_l0_b G (zf_View_countHolding_l0 G n) c i = _ ∧ zf_M_holding_l0_b (zf_M_holding_l0 n) c i H = _
    unfold zf_View_countHolding_l0_b zf_M_holding_l0_b
    rw [if_pos (show i < 24 by omega), if_pos (show i < 24 by omega), zi_w_id (x := i + 1) (by omega) (by omega)]
    have hf : (24 - (i + 1)).toNat < zi_fu := Nat.lt_of_le_of_lt (show (24 - (i + 1)).toNat ≤ 24 by omega) (by decide)
    obtain ⟨c2, H2, e1, e2, ⟨b1, b2⟩, eh2⟩ := yo_hold1 hG sym i0 (by omega) (24 - (i + 1)).toNat (i + 1) c H zi_fu (by omega) (by omega) hf c0 (by omega) eh
    rw [e1, e2, zl_b, zl_b]
    exact ih (i + 1) c2 H2 n (by omega) (by omega) (by omega) b1 (by omega) eh2
theorem yo_hold (hG : ∀ j : Nat, j < 24 → z24 (G j)) (sym : ∀ p q : Nat, p < 24 → q < 24 → zb (G p) q = true → zb (G q) p = true) (e : ∀ p : Nat, p < 24 → G p = H p) : ∃ c H', zf_View_countHolding G = some c ∧ zf_M_holding H = some (c, H') := by
  obtain ⟨c, H', e1, e2⟩ := yo_hold0 hG sym 24 0 0 H zi_fu (by decide) (by decide) (by decide) (by decide) (by decide) e
  refine ⟨c, H', ?_, ?_⟩
  · unfold zf_View_countHolding
    rw [e1]; rfl
  · unfold zf_M_holding
    rw [e2]; rfl
end YSY
section YSZ
variable {L : zLW} {K V kd fr hf to C mk mf mh mt : Int → Int} {nc tS tL sP lP mc : Int} {t h u cl sc sr ch : Int} {co ro br wc wr m : Int → Int}
theorem yo_figure (R : yl_R L K V nc tS tL sP lP kd fr hf to mc C mk mf mh mt) (k : yk_sky t h u cl sc sr ch co ro br wc wr m) {x y a f4 f5 f6 f9 f14 f16 f1 : Int} {g0 g1 g9 g11 g12 g2 g6 g7 : Int → Int} :
    ∃ r f4' f5' f6' f9' f14' f16' g0' g1' g9' g11' g12' f1' g2' g6' g7', zf_X_figure x y a t f4 f5 f6 h u f9 sc sr cl tS f14 nc f16 sP tL lP g0 g1 co ro br kd hf to K g9 V g11 g12 = some (r, f4', f5', f6', f9', f14', f16', g0', g1', g9', g11', g12') ∧ zf_M_figure x y a mc f1 m mk g2 mh mt C g6 g7 = some (r, f1', g2', g6', g7') := by
  obtain ⟨⟨ht, k126⟩, -⟩ := id k
  have tin : 0 ≤ t ∧ t ≤ 2147483647 := ⟨ht.1, by have := ht.2; omega⟩
  unfold zf_X_figure zf_M_figure
  rw [ze_X_isPlace, ze_M_isPlace, zl_b, zl_b]
  by_cases q : zs_pl x y = 0
  · rw [if_pos q, if_pos q]
    exact ⟨-1, f4, f5, f6, f9, f14, f16, g0, g1, g9, g11, g12, f1, g2, g6, g7, rfl, rfl⟩
  rw [if_neg q, if_neg q, ze_Sky_hasStar tin.1 tin.2, ze_M_isTold (by rw [k126]; exact tin.1) (by rw [k126]; exact tin.2), k126, zl_b, zl_b]
  obtain ⟨x1, x2, y1, y2⟩ := zs_pl_ne q
  by_cases qa : zs_has 24 t a = 0
  · rw [if_pos qa, if_pos qa]
    exact ⟨-1, f4, f5, f6, f9, f14, f16, g0, g1, g9, g11, g12, f1, g2, g6, g7, rfl, rfl⟩
  rw [if_neg qa, if_neg qa]
  obtain ⟨a1, a2, -⟩ := zs_has_ne qa
  obtain ⟨f3', s', f14', f16', g0', g1', g9', J, g12', e1, i1, l1⟩ := yx_lad (f3 := f4) (f4 := f5) (f5 := f6) (f8 := f9) (f14 := f14) (f16 := f16) (g0 := g0) (g1 := g1) (g9 := g9) (g11 := g11) (g12 := g12) R k x1 (by omega : x ≤ 23) y1 (by omega : y ≤ 11)
  obtain ⟨s2, g2', g6', J2, e2, i2, l2⟩ := ym_looks (f1 := f1) (g := g2) (S := g6) (J := g7) R k x1 (by omega) y1 (by omega)
  rw [e1, zl_b, zi_w_id (x := 24 * y) (by omega) (by omega), zi_w_id (x := 24 * y + x) (by omega) (by omega), e2, zl_b]
  have es := yv_is_eq i1 i2
  subst es
  have hG : ∀ j : Nat, j < 24 → z24 (J j) := fun j hj => (l1 j hj).1
  have ej : ∀ j : Nat, j < 24 → J j = J2 j := fun j hj => yv_il_eq l1 l2 j (by omega) (by omega)
  dsimp only
  rw [ze_mh i1.1 a1 a2, zl_b, zb_bit a1 (by omega)]
  by_cases qs : zb s' a.toNat = true
  · rw [if_pos qs, if_neg (show ¬ (1 : Int) = 0 by decide), if_neg (show ¬ (1 : Int) = 0 by decide)]
    obtain ⟨r, e3, e4, -⟩ := yo_fig2 hG ej a1 a2
    rw [e3, e4, zl_b, zl_b]
    exact ⟨_, _, _, _, _, _, _, _, _, _, _, _, _, _, _, _, rfl, rfl⟩
  · rw [if_neg qs, if_pos rfl, if_pos rfl]
    exact ⟨_, _, _, _, _, _, _, _, _, _, _, _, _, _, _, _, rfl, rfl⟩
end YSZ
end
section
/-! sky: alike on both sides. -/
section YSW
variable {L : zLW} {K V kd fr hf to C mk mf mh mt : Int → Int} {nc tS tL sP lP mc : Int} {t h u cl sc sr ch : Int} {co ro br wc wr m : Int → Int}
theorem yo_sky (R : yl_R L K V nc tS tL sP lP kd fr hf to mc C mk mf mh mt) (k : yk_sky t h u cl sc sr ch co ro br wc wr m) {x y a f3 f4 f5 f8 f14 f16 f1 f2 f33 : Int} {g0 g1 g9 g11 g12 g2 g6 g7 : Int → Int} :
    ∃ r f3' f4' f5' f8' f14' f16' g0' g1' g9' g11' g12' f1' f2' f33' g2' g6' g7', zf_X_sky x y a f3 f4 f5 h u f8 t sc sr cl tS f14 nc f16 sP tL lP g0 g1 co ro br kd hf to K g9 V g11 g12 = some (r, f3', f4', f5', f8', f14', f16', g0', g1', g9', g11', g12') ∧
      zf_M_sky x y a mc f1 f2 f33 m mk g2 mh mt C g6 g7 = some (r, f1', f2', f33', g2', g6', g7') := by
  unfold zf_X_sky zf_M_sky
  rw [ze_X_isPlace, ze_M_isPlace, zl_b, zl_b]
  by_cases q : zs_pl x y = 0
  · rw [if_pos q, if_pos q]
    exact ⟨-1, f3, f4, f5, f8, f14, f16, g0, g1, g9, g11, g12, f1, f2, f33, g2, g6, g7, rfl, rfl⟩
  rw [if_neg q, if_neg q, ze_X_isWithin, zl_b]
  obtain ⟨x1, x2, y1, y2⟩ := zs_pl_ne q
  obtain ⟨s2, g2', g6', J2, e2, i2, l2⟩ := ym_looks (f1 := f1) (g := g2) (S := g6) (J := g7) R k x1 (by omega : x ≤ 23) y1 (by omega : y ≤ 11)
  rw [zi_w_id (x := 24 * y) (by omega) (by omega), zi_w_id (x := 24 * y + x) (by omega) (by omega), e2, zl_b]
  dsimp only
  obtain ⟨f3', s', f14', f16', g0', g1', g9', J, g12', e1, i1, l1⟩ := yx_lad (f3 := f3) (f4 := f4) (f5 := f5) (f8 := f8) (f14 := f14) (f16 := f16) (g0 := g0) (g1 := g1) (g9 := g9) (g11 := g11) (g12 := g12) R k x1 (by omega : x ≤ 23) y1 (by omega : y ≤ 11)
  have es := yv_is_eq i1 i2
  subst es
  have hG : ∀ j : Nat, j < 24 → z24 (J j) := fun j hj => (l1 j hj).1
  have ej : ∀ j : Nat, j < 24 → J j = J2 j := fun j hj => yv_il_eq l1 l2 j (by omega) (by omega)
  obtain ⟨cf, mx, c1, c2, c3, cb⟩ := yo_figs (f0 := f2) (f1 := f33) hG ej i1.1
  obtain ⟨lg, d1, d2, d3, d4⟩ := yo_legs hG ej i1.1
  obtain ⟨ln, n1, n2, n3, n4⟩ := yo_lines hG ej
  obtain ⟨ho, H', h1, h2⟩ := yo_hold hG (yv_il_sym l1) ej
  rw [c3, zl_b, d2, zl_b]
  dsimp only
  by_cases w : zs_in a 0 6 = 0
  · rw [if_pos w]
    have hw : ¬ (0 ≤ a ∧ a ≤ 6) := fun hh => by
      unfold zs_in at w
      rw [if_pos hh] at w
      exact absurd w (by decide)
    rw [if_neg (show ¬ a = 0 by omega), if_neg (show ¬ a = 1 by omega), if_neg (show ¬ a = 2 by omega), if_neg (show ¬ a = 3 by omega), if_neg (show ¬ a = 4 by omega), if_neg (show ¬ a = 5 by omega), if_neg (show ¬ a = 6 by omega)]
    exact ⟨_, _, _, _, _, _, _, _, _, _, _, _, _, _, _, _, _, _, rfl, rfl⟩
  rw [if_neg w, e1, zl_b]
  dsimp only
  rw [n1, zl_b]
  obtain ⟨w1, w2⟩ := zs_in_ne w
  by_cases a0 : a = 0
  · rw [if_pos a0, if_pos a0, n2, zl_b]
    exact ⟨_, _, _, _, _, _, _, _, _, _, _, _, _, _, _, _, _, _, rfl, rfl⟩
  rw [if_neg a0, if_neg a0]
  by_cases a1 : a = 1
  · rw [if_pos a1, if_pos a1, c1, zl_b]
    exact ⟨_, _, _, _, _, _, _, _, _, _, _, _, _, _, _, _, _, _, rfl, rfl⟩
  rw [if_neg a1, if_neg a1]
  by_cases a2 : a = 2
  · rw [if_pos a2, if_pos a2, c2, zl_b]
    exact ⟨_, _, _, _, _, _, _, _, _, _, _, _, _, _, _, _, _, _, rfl, rfl⟩
  rw [if_neg a2, if_neg a2]
  by_cases a3 : a = 3
  · rw [if_pos a3, if_pos a3, ze_bc i1.1, zl_b, c1, zl_b, n2, zl_b, ze_mb i1.1, zl_b]
    exact ⟨_, _, _, _, _, _, _, _, _, _, _, _, _, _, _, _, _, _, rfl, rfl⟩
  rw [if_neg a3, if_neg a3]
  by_cases a4 : a = 4
  · rw [if_pos a4, if_pos a4, h1, zl_b, h2, zl_b]
    exact ⟨_, _, _, _, _, _, _, _, _, _, _, _, _, _, _, _, _, _, rfl, rfl⟩
  rw [if_neg a4, if_neg a4]
  by_cases a5 : a = 5
  · rw [if_pos a5, if_pos a5, d1, zl_b]
    exact ⟨_, _, _, _, _, _, _, _, _, _, _, _, _, _, _, _, _, _, rfl, rfl⟩
  rw [if_neg a5, if_neg a5, if_pos (show a = 6 by omega), d1, zl_b]
  unfold zf_View_legsOf
  by_cases b : lg = -1
  · rw [if_pos b, if_pos b, zl_b]
    exact ⟨_, _, _, _, _, _, _, _, _, _, _, _, _, _, _, _, _, _, rfl, rfl⟩
  have ez := hG lg.toNat (by omega)
  have eh := ej lg.toNat (by omega)
  rw [Int.toNat_of_nonneg (by omega)] at ez eh
  rw [if_neg b, if_neg b, zl_ci (show 0 ≤ lg by omega) (by omega), zl_ci (show 0 ≤ lg by omega) (by omega), ← eh, ze_bc ez, ze_mb ez, zl_b, zl_b, zl_b]
  exact ⟨_, _, _, _, _, _, _, _, _, _, _, _, _, _, _, _, _, _, rfl, rfl⟩
end YSW
end
section
/-! What is seen from both places: alike on both sides. -/
section YSB
theorem yb_keep_l {g1 : Int → Int} : ∀ (d : Nat) (j : Int) (g : Int → Int) (n : Nat), j + d = 24 → 0 ≤ j → d < n → ∃ g2, zf_View_keepShared_l0 g1 n j g = some g2 ∧ (∀ i, j ≤ i → i < 24 → g2 i = zi_and (g i) (g1 i)) ∧ ∀ i, i < j → g2 i = g i := by
  intro d
  induction d with
  | zero =>
    intro j g n e _ hn
    obtain ⟨n, rfl⟩ : ∃ q, n = q + 1 := ⟨n - 1, by omega⟩
    refine ⟨g, ?_, fun i _ _ => by omega, fun _ _ => rfl⟩
    show zf_View_keepShared_l0_b g1 (zf_View_keepShared_l0 g1 n) j g = _
    unfold zf_View_keepShared_l0_b
    rw [if_neg (by omega)]
  | succ d ih =>
    intro j g n e j0 hn
    obtain ⟨n, rfl⟩ : ∃ q, n = q + 1 := ⟨n - 1, by omega⟩
    obtain ⟨g2, e1, a, b⟩ := ih (j + 1) (zv_up g j (zi_and (g j) (g1 j))) n (by omega) (by omega) (by omega)
    refine ⟨g2, ?_, fun i i1 i2 => ?_, fun i i1 => ?_⟩
    · show zf_View_keepShared_l0_b g1 (zf_View_keepShared_l0 g1 n) j g = _
      unfold zf_View_keepShared_l0_b
      rw [if_pos (by omega), zl_ci j0 (by omega), zi_w_id (x := j + 1) (by omega) (by omega), e1]
    · by_cases q : i = j
      · subst q
        rw [b i (by omega), zv_up_s]
      · rw [a i (by omega) i2, zv_up_n q]
    · rw [b i (by omega), zv_up_n (by omega)]
theorem yb_l0 {g1 : Int → Int} : ∀ (d : Nat) (j : Int) (g : Int → Int) (n : Nat), j + d = 24 → 0 ≤ j → d < n → ∃ g2, zf_M_looksBoth_l0 g1 n j g = some g2 ∧ (∀ i, j ≤ i → i < 24 → g2 i = g1 i) ∧ ∀ i, i < j → g2 i = g i := by
  intro d
  induction d with
  | zero =>
    intro j g n e _ hn
    obtain ⟨n, rfl⟩ : ∃ q, n = q + 1 := ⟨n - 1, by omega⟩
    refine ⟨g, ?_, fun i _ _ => by omega, fun _ _ => rfl⟩
    show zf_M_looksBoth_l0_b g1 (zf_M_looksBoth_l0 g1 n) j g = _
    unfold zf_M_looksBoth_l0_b
    rw [if_neg (by omega)]
  | succ d ih =>
    intro j g n e j0 hn
    obtain ⟨n, rfl⟩ : ∃ q, n = q + 1 := ⟨n - 1, by omega⟩
    obtain ⟨g2, e1, a, b⟩ := ih (j + 1) (zv_up g j (g1 j)) n (by omega) (by omega) (by omega)
    refine ⟨g2, ?_, fun i i1 i2 => ?_, fun i i1 => ?_⟩
    · show zf_M_looksBoth_l0_b g1 (zf_M_looksBoth_l0 g1 n) j g = _
      unfold zf_M_looksBoth_l0_b
      rw [if_pos (by omega), zl_ci j0 (by omega), zi_w_id (x := j + 1) (by omega) (by omega), e1]
    · by_cases q : i = j
      · subst q
        rw [b i (by omega), zv_up_s]
      · exact a i (by omega) i2
    · rw [b i (by omega), zv_up_n (by omega)]
theorem yb_l1 {g1 : Int → Int} : ∀ (d : Nat) (j : Int) (g : Int → Int) (n : Nat), j + d = 24 → 0 ≤ j → d < n → ∃ g2, zf_M_looksBoth_l1 g1 n j g = some g2 ∧ (∀ i, j ≤ i → i < 24 → g2 i = zi_and (g i) (g1 i)) ∧ ∀ i, i < j → g2 i = g i := by
  intro d
  induction d with
  | zero =>
    intro j g n e _ hn
    obtain ⟨n, rfl⟩ : ∃ q, n = q + 1 := ⟨n - 1, by omega⟩
    refine ⟨g, ?_, fun i _ _ => by omega, fun _ _ => rfl⟩
    show zf_M_looksBoth_l1_b g1 (zf_M_looksBoth_l1 g1 n) j g = _
    unfold zf_M_looksBoth_l1_b
    rw [if_neg (by omega)]
  | succ d ih =>
    intro j g n e j0 hn
    obtain ⟨n, rfl⟩ : ∃ q, n = q + 1 := ⟨n - 1, by omega⟩
    obtain ⟨g2, e1, a, b⟩ := ih (j + 1) (zv_up g j (zi_and (g j) (g1 j))) n (by omega) (by omega) (by omega)
    refine ⟨g2, ?_, fun i i1 i2 => ?_, fun i i1 => ?_⟩
    · show zf_M_looksBoth_l1_b g1 (zf_M_looksBoth_l1 g1 n) j g = _
      unfold zf_M_looksBoth_l1_b
      rw [if_pos (by omega), zl_ci j0 (by omega), zi_w_id (x := j + 1) (by omega) (by omega), e1]
    · by_cases q : i = j
      · subst q
        rw [b i (by omega), zv_up_s]
      · rw [a i (by omega) i2, zv_up_n q]
    · rw [b i (by omega), zv_up_n (by omega)]
theorem zi_and_cm {a b : Int} : zi_and a b = zi_and b a := by
  unfold zi_and
  refine zi_ev_zb fun j _ => ?_
  show zb (zi_and a b) j = zb (zi_and b a) j
  rw [zb_and, zb_and, Bool.and_comm]
theorem yb_keep {f0 f1 : Int} {g g1 : Int → Int} : ∃ g2, zf_View_keepShared f0 f1 g g1 = some (zi_and f0 f1, g2) ∧ ∀ i, 0 ≤ i → i < 24 → g2 i = zi_and (g i) (g1 i) := by
  obtain ⟨g2, e1, a, -⟩ := yb_keep_l (g1 := g1) 24 0 g zi_fu (by decide) (by decide) (by decide)
  refine ⟨g2, ?_, a⟩
  unfold zf_View_keepShared
  rw [e1]; rfl
theorem yo_lines_eq {G H : Int → Int} : ∀ (d : Nat) (j : Int) (n : Nat), j + d = 24 → 0 ≤ j → d < n → (zf_View_hasLinesOf_l0 G H n j = some (.inl ()) ∧ ∀ i, j ≤ i → i < 24 → G i = H i) ∨ (zf_View_hasLinesOf_l0 G H n j = some (.inr 0) ∧ ∃ i, j ≤ i ∧ i < 24 ∧ G i ≠ H i) := by
  intro d
  induction d with
  | zero =>
    intro j n e _ hn
    obtain ⟨n, rfl⟩ : ∃ q, n = q + 1 := ⟨n - 1, by omega⟩
    refine .inl ⟨?_, fun i _ _ => by omega⟩
    show zf_View_hasLinesOf_l0_b G H (zf_View_hasLinesOf_l0 G H n) j = _
    unfold zf_View_hasLinesOf_l0_b
    rw [if_neg (by omega)]
  | succ d ih =>
    intro j n e j0 hn
    obtain ⟨n, rfl⟩ : ∃ q, n = q + 1 := ⟨n - 1, by omega⟩
    show (zf_View_hasLinesOf_l0_b G H (zf_View_hasLinesOf_l0 G H n) j = _ ∧ _) ∨ (zf_View_hasLinesOf_l0_b G H (zf_View_hasLinesOf_l0 G H n) j = _ ∧ _)
    unfold zf_View_hasLinesOf_l0_b
    rw [if_pos (by omega), zl_ci j0 (by omega), zi_w_id (x := j + 1) (by omega) (by omega)]
    by_cases q : G j = H j
    · rw [if_pos q]
      rcases ih (j + 1) n (by omega) (by omega) (by omega) with ⟨e1, a⟩ | ⟨e1, i, i0, i1, a⟩
      · refine .inl ⟨e1, fun i i0 i1 => ?_⟩
        by_cases w : i = j
        · subst w; exact q
        · exact a i (by omega) i1
      · exact .inr ⟨e1, i, by omega, i1, a⟩
    · rw [if_neg q]
      exact .inr ⟨rfl, j, Int.le_refl _, by omega, q⟩
end YSB
end
