/-! One star, seen or not, on both sides. -/
def yv_st (h : Int) (co : Int → Int) (i : Int) : Int := (co i + h) % 24
def yv_see (L : zLW) (tS h u cl sc sr : Int) (co ro br : Int → Int) (x y i : Int) : Bool :=
  decide (yg_cb (yv_st h co i) x ≤ sc ∧ yg_ab (ro i - y) ≤ sr) && (!(zb cl (yv_st h co i).toNat) && (decide (tS = 0) || yl_any L 118 (yv_lt h u i (br i) (ro i) (yv_st h co i) x y (yg_cb (yv_st h co i) x + yg_ab (ro i - y)))))
/-- what a view knows already -/
def yv_ca (L : zLW) (sP h u : Int) (co ro br : Int → Int) (as ho : Int) : Prop := ∀ j : Nat, j < 24 → zb as j = true → sP = 0 ∧ zb ho j = yl_any L 118 (yv_lt h u j (br j) (ro j) (yv_st h co j) 0 0 0)
theorem yv_ba_up {h u x y a b c d e : Int} {g : Int → Int} (hg : yv_ba h u x y g) : yv_ba h u x y (zv_up (zv_up (zv_up (zv_up (zv_up g 2 a) 3 b) 4 c) 5 d) 12 e) := hg
theorem ze_setStar {i h : Int} {g br ro co : Int → Int} (i1 : 0 ≤ i) (i2 : i < 24) (c1 : 0 ≤ co i) (c2 : co i ≤ 23) (h1 : 0 ≤ h) (h2 : h ≤ 23) : zf_Law_setStar i h g br ro co = some (zv_up (zv_up (zv_up (zv_up g 2 i) 3 (br i)) 4 (ro i)) 5 (yv_st h co i)) := by
  unfold zf_Law_setStar
  rw [zl_ci i1 (by omega), ze_Sky_standing i1 i2 c1 c2 h1 h2, zl_b]
  rfl
theorem yv_st_in {h i : Int} {co : Int → Int} : 0 ≤ yv_st h co i ∧ yv_st h co i ≤ 23 := by
  unfold yv_st
  omega
theorem zs_has1 {n t i : Int} (h1 : 0 ≤ t) (h2 : t ≤ 2147483647) (i1 : 0 ≤ i) (i2 : i < n) (h : zb t i.toNat = true) : zs_has n t i = 1 := by
  unfold zs_has
  rw [zb_tb2 h1 h2]
  exact if_pos ⟨i1, i2, h⟩
theorem zs_has0 {n t i : Int} (h1 : 0 ≤ t) (h2 : t ≤ 2147483647) (h : ¬ zb t i.toNat = true) : zs_has n t i = 0 := by
  unfold zs_has
  rw [zb_tb2 h1 h2]
  exact if_neg fun hh => h hh.2.2
section YVS
variable {L : zLW} {K V kd fr hf to C mk mf mh mt : Int → Int} {nc tS tL sP lP mc : Int} {t h u cl sc sr x y i : Int} {co ro br : Int → Int}
theorem yv_any (R : yl_R L K V nc tS tL sP lP kd fr hf to mc C mk mf mh mt) {g : Int → Int} {d : Int} (hg : yv_ba h u x y g) : yl_any L 118 (zv_up (zv_up (zv_up (zv_up (zv_up g 2 i) 3 (br i)) 4 (ro i)) 5 (yv_st h co i)) 12 d) = yl_any L 118 (yv_lt h u i (br i) (ro i) (yv_st h co i) x y d) :=
  yl_any_c R (yv_lt_of (yv_ba_up hg) rfl rfl rfl rfl rfl)
theorem yv_any0 (R : yl_R L K V nc tS tL sP lP kd fr hf to mc C mk mf mh mt) (hs : sP = 0) {a b c d : Int} {x2 y2 d2 : Int} : yl_any L 118 (yv_lt h u i a b c x y d) = yl_any L 118 (yv_lt h u i a b c x2 y2 d2) :=
  yl_any_v R hs fun j j0 j1 => by
    unfold yv_lt
    have e1 : ¬ j = 10 := by omega
    have e2 : ¬ j = 11 := by omega
    have e3 : ¬ j = 12 := by omega
    rw [if_neg e1, if_neg e1, if_neg e2, if_neg e2, if_neg e3, if_neg e3]
theorem yx_sees (R : yl_R L K V nc tS tL sP lP kd fr hf to mc C mk mf mh mt) {as ho f13 : Int} {g S : Int → Int} (ht : z24 t) (hcl : z24 cl) (h1 : 0 ≤ h) (h2 : h ≤ 23) (i1 : 0 ≤ i) (i2 : i < 24) (c1 : 0 ≤ co i) (c2 : co i ≤ 23) (r1 : 0 ≤ ro i) (r2 : ro i ≤ 11) (x1 : 0 ≤ x) (x2 : x ≤ 23) (y1 : 0 ≤ y) (y2 : y ≤ 11) (hg : yv_ba h u x y g) (hc : yv_ca L sP h u co ro br as ho) :
    ∃ as' ho' a' g' S', zf_View_sees i t h x y sc sr cl tS as ho nc f13 sP co ro g br kd hf to K S V = some ((if (zb t i.toNat && yv_see L tS h u cl sc sr co ro br x y i) = true then 1 else 0), as', ho', a', g', S') ∧ yv_ba h u x y g' ∧ yv_ca L sP h u co ro br as' ho' := by
  have hst := yv_st_in (h := h) (co := co) (i := i)
  obtain ⟨b1, b2, b3⟩ := ze_colsBetween hst.1 hst.2 x1 x2
  have hab := yg_ab_in (a := ro i - y)
  have tin : 0 ≤ t ∧ t ≤ 2147483647 := ⟨ht.1, by have := ht.2; omega⟩
  unfold zf_View_sees
  rw [ze_Sky_hasStar tin.1 tin.2, zl_b]
  by_cases hti : zb t i.toNat = true
  · rw [zs_has1 tin.1 tin.2 i1 i2 hti, if_neg (show ¬ (1 : Int) = 0 by decide), ze_Sky_standing i1 i2 c1 c2 h1 h2, zl_b, show (co i + h) % 24 = yv_st h co i from rfl, b1, zl_b, zl_ci i1 (by omega), zi_w_id (x := ro i - y) (by omega) (by omega), ze_Math_ab2 (by omega) (by omega), zl_b, hti, Bool.true_and]
    unfold yv_see
    by_cases n1 : sc < yg_cb (yv_st h co i) x
    · rw [if_pos n1, decide_eq_false (by omega), Bool.false_and, if_neg (by decide)]
      exact ⟨as, ho, f13, g, S, rfl, hg, hc⟩
    rw [if_neg n1]
    by_cases n2 : sr < yg_ab (ro i - y)
    · rw [if_pos n2, decide_eq_false (by omega), Bool.false_and, if_neg (by decide)]
      exact ⟨as, ho, f13, g, S, rfl, hg, hc⟩
    rw [if_neg n2, decide_eq_true (⟨by omega, by omega⟩ : yg_cb (yv_st h co i) x ≤ sc ∧ yg_ab (ro i - y) ≤ sr), Bool.true_and]
    by_cases n3 : zb cl (yv_st h co i).toNat = true
    · rw [zb_bit1 hst.1 (by omega) n3, if_neg (show ¬ (1 : Int) = 0 by decide), n3, Bool.not_true, Bool.false_and, if_neg (by decide)]
      exact ⟨as, ho, f13, g, S, rfl, hg, hc⟩
    rw [zb_bit0 hst.1 (by omega) n3, if_pos rfl, Bool.eq_false_iff.mpr n3, Bool.not_false, Bool.true_and]
    by_cases n4 : tS = 0
    · rw [if_pos n4, decide_eq_true n4, Bool.true_or, if_pos rfl]
      exact ⟨as, ho, f13, g, S, rfl, hg, hc⟩
    rw [if_neg n4, decide_eq_false n4, Bool.false_or]
    by_cases n5 : zb as i.toNat = true
    · rw [zb_bit1 i1 (by omega) n5, if_neg (show ¬ (1 : Int) = 0 by decide)]
      obtain ⟨s0, q⟩ := hc i.toNat (by omega) n5
      rw [show ((i.toNat : Nat) : Int) = i by omega] at q
      rw [yv_any0 R s0 (x2 := 0) (y2 := 0) (d2 := 0), ← q]
      by_cases n6 : zb ho i.toNat = true
      · rw [zb_bit1 i1 (by omega) n6, if_neg (show ¬ (1 : Int) = 0 by decide), if_pos n6]
        exact ⟨as, ho, f13, g, S, rfl, hg, hc⟩
      · rw [zb_bit0 i1 (by omega) n6, if_pos rfl, if_neg n6]
        exact ⟨as, ho, f13, g, S, rfl, hg, hc⟩
    rw [zb_bit0 i1 (by omega) n5, if_pos rfl, ze_setStar i1 i2 c1 c2 h1 h2, zl_b, zi_w_id (x := yg_cb (yv_st h co i) x + yg_ab (ro i - y)) (by omega) (by omega)]
    obtain ⟨a', S', ea⟩ := yl_anyX (lt := zv_up (zv_up (zv_up (zv_up (zv_up g 2 i) 3 (br i)) 4 (ro i)) 5 (yv_st h co i)) 12 (yg_cb (yv_st h co i) x + yg_ab (ro i - y))) R (k := 118) (f1 := f13) (S := S)
    rw [ea, zl_b, yv_any R hg]
    have hg2 : yv_ba h u x y (zv_up (zv_up (zv_up (zv_up (zv_up g 2 i) 3 (br i)) 4 (ro i)) 5 (yv_st h co i)) 12 (yg_cb (yv_st h co i) x + yg_ab (ro i - y))) := yv_ba_up hg
    have hnot : zb (zi_and ho (zi_xor (zi_shl 1 i) (-1))) i.toNat = false := by
      rw [zb_and, zb_not (by omega), zb_shl i1 (by omega), decide_eq_true rfl, Bool.not_true, Bool.and_false]
    have hset : zb (zi_or ho (zi_shl 1 i)) i.toNat = true := by
      rw [zb_or, zb_shl i1 (by omega), decide_eq_true rfl, Bool.or_true]
    have upd : ∀ ho', (∀ j : Nat, j < 24 → j ≠ i.toNat → zb ho' j = zb ho j) → (sP = 0 → zb ho' i.toNat = yl_any L 118 (yv_lt h u i (br i) (ro i) (yv_st h co i) x y (yg_cb (yv_st h co i) x + yg_ab (ro i - y)))) → (sP = 0 → yv_ca L sP h u co ro br (zi_or as (zi_shl 1 i)) ho') ∧ (sP ≠ 0 → yv_ca L sP h u co ro br as ho') := by
      intro ho' q1 q2
      refine ⟨fun s0 j hj hb => ⟨s0, ?_⟩, fun s0 j hj hb => absurd (hc j hj hb).1 s0⟩
      by_cases ej : j = i.toNat
      · subst ej
        rw [q2 s0, show ((i.toNat : Nat) : Int) = i by omega]
        exact yv_any0 R s0
      · rw [zb_or, zb_shl i1 (by omega), decide_eq_false ej, Bool.or_false] at hb
        rw [q1 j hj ej]
        exact (hc j hj hb).2
    have oth1 : ∀ j : Nat, j < 24 → j ≠ i.toNat → zb (zi_or ho (zi_shl 1 i)) j = zb ho j := fun j hj ej => by
      rw [zb_or, zb_shl i1 (by omega), decide_eq_false ej, Bool.or_false]
    have oth0 : ∀ j : Nat, j < 24 → j ≠ i.toNat → zb (zi_and ho (zi_xor (zi_shl 1 i) (-1))) j = zb ho j := fun j hj ej => by
      rw [zb_and, zb_not (by omega), zb_shl i1 (by omega), decide_eq_false ej, Bool.not_false, Bool.and_true]
    by_cases n6 : yl_any L 118 (yv_lt h u i (br i) (ro i) (yv_st h co i) x y (yg_cb (yv_st h co i) x + yg_ab (ro i - y))) = true
    · rw [if_pos n6, if_neg (show ¬ (1 : Int) = 0 by decide), zb_bit1 i1 (by omega) hset, if_neg (show ¬ (1 : Int) = 0 by decide), if_neg (show ¬ (1 : Int) = 0 by decide)]
      obtain ⟨u1, u2⟩ := upd _ oth1 (fun _ => by rw [hset, n6])
      by_cases n7 : sP = 0
      · rw [if_pos n7]
        exact ⟨_, _, _, _, _, rfl, hg2, u1 n7⟩
      · rw [if_neg n7]
        exact ⟨_, _, _, _, _, rfl, hg2, u2 n7⟩
    · rw [if_neg n6, if_pos rfl, zb_bit0 i1 (by omega) (by rw [hnot]; decide), if_pos rfl, if_pos rfl]
      obtain ⟨u1, u2⟩ := upd _ oth0 (fun _ => by rw [hnot]; exact (Bool.eq_false_iff.mpr n6).symm)
      by_cases n7 : sP = 0
      · rw [if_pos n7]
        exact ⟨_, _, _, _, _, rfl, hg2, u1 n7⟩
      · rw [if_neg n7]
        exact ⟨_, _, _, _, _, rfl, hg2, u2 n7⟩
  · rw [zs_has0 tin.1 tin.2 hti, if_pos rfl, Bool.eq_false_iff.mpr hti, Bool.false_and, if_neg (by decide)]
    exact ⟨as, ho, f13, g, S, rfl, hg, hc⟩
theorem ym_isSeen (R : yl_R L K V nc tS tL sP lP kd fr hf to mc C mk mf mh mt) {ch : Int} {wc wr m g S : Int → Int} (k : yk_sky t h u cl sc sr ch co ro br wc wr m) (i1 : 0 ≤ i) (i2 : i < 24) (hti : zb t i.toNat = true) (x1 : 0 ≤ x) (x2 : x ≤ 23) (y1 : 0 ≤ y) (y2 : y ≤ 11) :
    ∃ g' S', zf_M_isSeen (24 * y + x) i mc m mk g mh mt C S = some ((if yv_see L tS h u cl sc sr co ro br x y i = true then 1 else 0), g', S') := by
  obtain ⟨⟨ht, k126⟩, ⟨⟨h1, h2⟩, k128⟩, k129, ⟨hcl, k130⟩, ⟨⟨sc1, sc2⟩, k131⟩, ⟨⟨sr1, sr2⟩, k132⟩, -, ki⟩ := k
  obtain ⟨⟨⟨c1, c2⟩, ⟨r1, r2⟩, ⟨b1, b2⟩, -⟩, -, e⟩ := ki i i1 i2
  obtain ⟨e1, e2, e3, -, -⟩ := e hti
  have hst := yv_st_in (h := h) (co := co) (i := i)
  have hab := yg_ab_in (a := ro i - y)
  have ex : zi_rem (24 * y + x) 24 = x := by rw [zi_rem_eq (by omega) (by omega) (by decide) (by decide)]; omega
  have ey : zi_div (24 * y + x) 24 = y := by rw [zi_div_eq (by omega) (by omega) (by decide) (by decide)]; omega
  have est : (m i + m 128) % 24 = yv_st h co i := by rw [e1, k128]; rfl
  obtain ⟨t1, t2, t3, t4⟩ := ze_toRight x1 x2 hst.1 hst.2
  obtain ⟨-, q1, q2⟩ := ze_colsBetween hst.1 hst.2 x1 x2
  unfold zf_M_isSeen
  rw [ze_M_standsAt i1 i2 (by omega) (by omega) (by omega) (by omega), zl_b, est, ex, ey, t1, zl_b, ze_M_size2 (by omega) (by omega), zl_b, t4, zi_w_id (x := 24 + i) (by omega) (by omega), zl_ci (by omega) (by omega), e2, zi_w_id (x := ro i - y) (by omega) (by omega), ze_M_size2 (by omega) (by omega), zl_b, k131, k132, k130]
  unfold yv_see
  by_cases n1 : sc < yg_cb (yv_st h co i) x
  · rw [if_pos n1, decide_eq_false (by omega), Bool.false_and, if_neg (by decide)]
    exact ⟨_, _, rfl⟩
  rw [if_neg n1]
  by_cases n2 : sr < yg_ab (ro i - y)
  · rw [if_pos n2, decide_eq_false (by omega), Bool.false_and, if_neg (by decide)]
    exact ⟨_, _, rfl⟩
  rw [if_neg n2, decide_eq_true (⟨by omega, by omega⟩ : yg_cb (yv_st h co i) x ≤ sc ∧ yg_ab (ro i - y) ≤ sr), Bool.true_and]
  rw [ze_M_has hcl.1 (by have := hcl.2; omega) hst.1 (by omega), zl_b, zb_tb2 hcl.1 (by have := hcl.2; omega)]
  by_cases n3 : zb cl (yv_st h co i).toNat = true
  · rw [if_pos n3, if_neg (show ¬ (1 : Int) = 0 by decide), n3, Bool.not_true, Bool.false_and, if_neg (by decide)]
    exact ⟨_, _, rfl⟩
  obtain ⟨hc1, hc2⟩ := ze_M_hasClause R
  rw [if_neg n3, if_pos rfl, Bool.eq_false_iff.mpr n3, Bool.not_false, Bool.true_and, hc1, zl_b]
  by_cases n4 : tS = 0
  · rw [if_pos n4, decide_eq_true n4, Bool.true_or, if_pos rfl]
    exact ⟨_, _, rfl⟩
  rw [if_neg n4, decide_eq_false n4, Bool.false_or]
  obtain ⟨g2, eg, w0, w1, w2, w3, w4, w5, w6⟩ := ze_M_feelsStar (g := g) (m := m) i1 i2 (by omega) (by omega) (by omega) (by omega)
  rw [eg, zl_b, ze_way x1 x2 hst.1 hst.2 y1 y2 (by omega) (by omega), zl_b]
  obtain ⟨S', ea⟩ := yl_anyM (lt := zv_up (zv_up (zv_up g2 10 x) 11 y) 12 (yg_cb (yv_st h co i) x + yg_ab (y - ro i))) R (k := 118) (S := S)
  have el : yl_any L 118 (zv_up (zv_up (zv_up g2 10 x) 11 y) 12 (yg_cb (yv_st h co i) x + yg_ab (y - ro i))) = yl_any L 118 (yv_lt h u i (br i) (ro i) (yv_st h co i) x y (yg_cb (yv_st h co i) x + yg_ab (ro i - y))) := by
    refine yl_any_c R (yv_lt_of ⟨?_, ?_, ?_, ?_, ?_, ?_, rfl, rfl⟩ ?_ ?_ ?_ ?_ ?_)
    · exact w0.trans k128
    · exact w1.trans k129
    · exact w6 6 (by decide) (by decide)
    · exact w6 7 (by decide) (by decide)
    · exact w6 8 (by decide) (by decide)
    · exact w6 9 (by decide) (by decide)
    · exact w2
    · exact w3.trans e3
    · exact w4.trans e2
    · exact w5.trans est
    · show yg_cb (yv_st h co i) x + yg_ab (y - ro i) = yg_cb (yv_st h co i) x + yg_ab (ro i - y)
      have : yg_ab (y - ro i) = yg_ab (ro i - y) := by
        unfold yg_ab
        (repeat' split) <;> omega
      rw [this]
  rw [ea, zl_b, el]
  by_cases n6 : yl_any L 118 (yv_lt h u i (br i) (ro i) (yv_st h co i) x y (yg_cb (yv_st h co i) x + yg_ab (ro i - y))) = true
  · rw [if_pos n6]
    exact ⟨_, _, rfl⟩
  · rw [if_neg n6]
    exact ⟨_, _, rfl⟩
end YVS
