/-! Lines between two stars, on both sides. -/
def yv_lj (h u i b r c k b2 r2 c2 x y d : Int) : Int → Int := fun j => if j = 0 then h else if j = 1 then u else if j = 2 then i else if j = 3 then b else if j = 4 then r else if j = 5 then c else if j = 6 then k else if j = 7 then b2 else if j = 8 then r2 else if j = 9 then c2 else if j = 10 then x else if j = 11 then y else if j = 12 then d else 0
def yv_bj (h u x y : Int) (g : Int → Int) : Prop := g 0 = h ∧ g 1 = u ∧ g 10 = x ∧ g 11 = y
theorem yv_lj_of {h u i b r c k b2 r2 c2 x y d : Int} {g : Int → Int} (hg : yv_bj h u x y g) (e2 : g 2 = i) (e3 : g 3 = b) (e4 : g 4 = r) (e5 : g 5 = c) (e6 : g 6 = k) (e7 : g 7 = b2) (e8 : g 8 = r2) (e9 : g 9 = c2) (e12 : g 12 = d) : ∀ j, 0 ≤ j → j < 13 → g j = yv_lj h u i b r c k b2 r2 c2 x y d j := by
  obtain ⟨g0, g1, g10, g11⟩ := hg
  exact yv_13 g0 g1 e2 e3 e4 e5 e6 e7 e8 e9 g10 g11 e12
/-- whether a law draws a line between two -/
def yv_dr (L : zLW) (h u : Int) (co ro br : Int → Int) (x y a b : Int) : Bool := yl_any L 106 (yv_lj h u a (br a) (ro a) (yv_st h co a) b (br b) (ro b) (yv_st h co b) x y (yg_cb (co a) (co b) + yg_ab (ro a - ro b)))
def yv_cp (L : zLW) (lP h u : Int) (co ro br pa ph : Int → Int) : Prop := ∀ a b : Nat, a < 24 → b < 24 → zb (pa a) b = true → lP = 0 ∧ zb (ph a) b = yv_dr L h u co ro br 0 0 a b
theorem ze_setOther {i h : Int} {g br ro co : Int → Int} (i1 : 0 ≤ i) (i2 : i < 24) (c1 : 0 ≤ co i) (c2 : co i ≤ 23) (h1 : 0 ≤ h) (h2 : h ≤ 23) : zf_Law_setOther i h g br ro co = some (zv_up (zv_up (zv_up (zv_up g 6 i) 7 (br i)) 8 (ro i)) 9 (yv_st h co i)) := by
  unfold zf_Law_setOther
  rw [zl_ci i1 (by omega), ze_Sky_standing i1 i2 c1 c2 h1 h2, zl_b]
  rfl
section YVD
variable {L : zLW} {K V kd fr hf to C mk mf mh mt : Int → Int} {nc tS tL sP lP mc : Int} {t h u cl sc sr ch x y a b : Int} {co ro br : Int → Int}
theorem yv_dr0 (R : yl_R L K V nc tS tL sP lP kd fr hf to mc C mk mf mh mt) (hs : lP = 0) {x2 y2 : Int} : yv_dr L h u co ro br x y a b = yv_dr L h u co ro br x2 y2 a b :=
  yl_any_j R hs fun j j0 j1 e1 e2 => by
    unfold yv_lj
    rw [if_neg e1, if_neg e1, if_neg e2, if_neg e2]
theorem yx_isDrawn (R : yl_R L K V nc tS tL sP lP kd fr hf to mc C mk mf mh mt) {f4 : Int} {pa ph g S : Int → Int} (h1 : 0 ≤ h) (h2 : h ≤ 23) (a1 : 0 ≤ a) (a2 : a < 24) (b1 : 0 ≤ b) (b2 : b < 24) (rg : ∀ i, 0 ≤ i → i < 24 → (0 ≤ co i ∧ co i ≤ 23) ∧ (0 ≤ ro i ∧ ro i ≤ 11)) (hg : yv_bj h u x y g) (hc : yv_cp L lP h u co ro br pa ph) :
    ∃ f' pa' ph' g' S', zf_View_isDrawn a b h nc f4 lP pa ph g br ro co kd hf to K S V = some ((if yv_dr L h u co ro br x y a b = true then 1 else 0), f', pa', ph', g', S') ∧ yv_bj h u x y g' ∧ yv_cp L lP h u co ro br pa' ph' := by
  obtain ⟨⟨ca1, ca2⟩, ⟨ra1, ra2⟩⟩ := rg a a1 a2
  obtain ⟨⟨cb1, cb2⟩, ⟨rb1, rb2⟩⟩ := rg b b1 b2
  obtain ⟨q1, q2, q3⟩ := ze_colsBetween ca1 ca2 cb1 cb2
  have hab := yg_ab_in (a := ro a - ro b)
  unfold zf_View_isDrawn
  rw [zl_ci a1 (by omega)]
  have ea : ((a.toNat : Nat) : Int) = a := by omega
  have eb : ((b.toNat : Nat) : Int) = b := by omega
  by_cases n5 : zb (pa a) b.toNat = true
  · rw [zb_bit1 b1 (by omega) n5, if_neg (show ¬ (1 : Int) = 0 by decide)]
    obtain ⟨s0, q⟩ := hc a.toNat b.toNat (by omega) (by omega) (by rw [ea]; exact n5)
    rw [ea, eb] at q
    rw [yv_dr0 R s0 (x2 := 0) (y2 := 0), ← q]
    by_cases n6 : zb (ph a) b.toNat = true
    · rw [zb_bit1 b1 (by omega) n6, if_neg (show ¬ (1 : Int) = 0 by decide), if_pos n6]
      exact ⟨_, _, _, _, _, rfl, hg, hc⟩
    · rw [zb_bit0 b1 (by omega) n6, if_pos rfl, if_neg n6]
      exact ⟨_, _, _, _, _, rfl, hg, hc⟩
  rw [zb_bit0 b1 (by omega) n5, if_pos rfl, ze_setStar a1 a2 ca1 ca2 h1 h2, zl_b, ze_setOther b1 b2 cb1 cb2 h1 h2, zl_b, zl_ci b1 (by omega), q1, zl_b, zi_w_id (x := ro a - ro b) (by omega) (by omega), ze_Math_ab2 (by omega) (by omega), zl_b, zi_w_id (x := yg_cb (co a) (co b) + yg_ab (ro a - ro b)) (by omega) (by omega)]
  generalize hlt : zv_up (zv_up (zv_up (zv_up (zv_up (zv_up (zv_up (zv_up (zv_up g 2 a) 3 (br a)) 4 (ro a)) 5 (yv_st h co a)) 6 b) 7 (br b)) 8 (ro b)) 9 (yv_st h co b)) 12 (yg_cb (co a) (co b) + yg_ab (ro a - ro b)) = lt
  have hbj : yv_bj h u x y lt := by rw [← hlt]; exact hg
  have hel : yl_any L 106 lt = yv_dr L h u co ro br x y a b := yl_any_c R (yv_lj_of hbj (by rw [← hlt]; rfl) (by rw [← hlt]; rfl) (by rw [← hlt]; rfl) (by rw [← hlt]; rfl) (by rw [← hlt]; rfl) (by rw [← hlt]; rfl) (by rw [← hlt]; rfl) (by rw [← hlt]; rfl) (by rw [← hlt]; rfl))
  obtain ⟨a', S', e1⟩ := yl_anyX (lt := lt) R (k := 106) (f1 := f4) (S := S)
  rw [e1, zl_b, hel]
  have hnot : zb (zi_and (ph a) (zi_xor (zi_shl 1 b) (-1))) b.toNat = false := by
    rw [zb_and, zb_not (by omega), zb_shl b1 (by omega), decide_eq_true rfl, Bool.not_true, Bool.and_false]
  have hset : zb (zi_or (ph a) (zi_shl 1 b)) b.toNat = true := by
    rw [zb_or, zb_shl b1 (by omega), decide_eq_true rfl, Bool.or_true]
  have upd : ∀ v, (∀ j : Nat, j < 24 → j ≠ b.toNat → zb v j = zb (ph a) j) → (zb v b.toNat = yv_dr L h u co ro br x y a b) → (lP = 0 → yv_cp L lP h u co ro br (zv_up pa a (zi_or (pa a) (zi_shl 1 b))) (zv_up ph a v)) ∧ (lP ≠ 0 → yv_cp L lP h u co ro br pa (zv_up ph a v)) := by
    intro v q1 q2
    refine ⟨fun s0 i j hi hj hb => ⟨s0, ?_⟩, fun s0 i j hi hj hb => absurd (hc i j hi hj hb).1 s0⟩
    by_cases ei : (i : Int) = a
    · rw [ei] at hb ⊢
      rw [zv_up_s] at hb ⊢
      by_cases ej : j = b.toNat
      · subst ej
        rw [q2, eb]
        exact yv_dr0 R s0
      · rw [zb_or, zb_shl b1 (by omega), decide_eq_false ej, Bool.or_false] at hb
        rw [q1 j hj ej, ← ei]
        rw [← ei] at hb
        exact (hc i j hi hj hb).2
    · rw [zv_up_n ei] at hb ⊢
      exact (hc i j hi hj hb).2
  have oth1 : ∀ j : Nat, j < 24 → j ≠ b.toNat → zb (zi_or (ph a) (zi_shl 1 b)) j = zb (ph a) j := fun j hj ej => by
    rw [zb_or, zb_shl b1 (by omega), decide_eq_false ej, Bool.or_false]
  have oth0 : ∀ j : Nat, j < 24 → j ≠ b.toNat → zb (zi_and (ph a) (zi_xor (zi_shl 1 b) (-1))) j = zb (ph a) j := fun j hj ej => by
    rw [zb_and, zb_not (by omega), zb_shl b1 (by omega), decide_eq_false ej, Bool.not_false, Bool.and_true]
  by_cases n6 : yv_dr L h u co ro br x y a b = true
  · rw [if_pos n6, if_neg (show ¬ (1 : Int) = 0 by decide), zv_up_s, zb_bit1 b1 (by omega) hset, if_neg (show ¬ (1 : Int) = 0 by decide), if_neg (show ¬ (1 : Int) = 0 by decide)]
    obtain ⟨u1, u2⟩ := upd _ oth1 (by rw [hset, n6])
    by_cases n7 : lP = 0
    · rw [if_pos n7]
      exact ⟨_, _, _, _, _, rfl, hbj, u1 n7⟩
    · rw [if_neg n7]
      exact ⟨_, _, _, _, _, rfl, hbj, u2 n7⟩
  · rw [if_neg n6, if_pos rfl, zv_up_s, zb_bit0 b1 (by omega) (by rw [hnot]; decide), if_pos rfl, if_pos rfl]
    obtain ⟨u1, u2⟩ := upd _ oth0 (by rw [hnot]; exact (Bool.eq_false_iff.mpr n6).symm)
    by_cases n7 : lP = 0
    · rw [if_pos n7]
      exact ⟨_, _, _, _, _, rfl, hbj, u1 n7⟩
    · rw [if_neg n7]
      exact ⟨_, _, _, _, _, rfl, hbj, u2 n7⟩
theorem yg_turn {a b h : Int} (a1 : 0 ≤ a) (a2 : a ≤ 23) (b1 : 0 ≤ b) (b2 : b ≤ 23) (h1 : 0 ≤ h) (h2 : h ≤ 23) : yg_cb ((b + h) % 24) ((a + h) % 24) = yg_cb a b := by
  unfold yg_cb yg_ab
  (repeat' split) <;> omega
theorem ym_isDrawn (R : yl_R L K V nc tS tL sP lP kd fr hf to mc C mk mf mh mt) {wc wr m g S : Int → Int} (k : yk_sky t h u cl sc sr ch co ro br wc wr m) (a1 : 0 ≤ a) (a2 : a < 24) (b1 : 0 ≤ b) (b2 : b < 24) (hta : zb t a.toNat = true) (htb : zb t b.toNat = true) (x1 : 0 ≤ x) (x2 : x ≤ 23) (y1 : 0 ≤ y) (y2 : y ≤ 11) :
    ∃ g' S', zf_M_isDrawn (24 * y + x) a b mc g m mk mh mt C S = some ((if yv_dr L h u co ro br x y a b = true then 1 else 0), g', S') := by
  obtain ⟨⟨ht, k126⟩, ⟨⟨h1, h2⟩, k128⟩, k129, -, -, -, -, ki⟩ := k
  obtain ⟨⟨⟨ca1, ca2⟩, ⟨ra1, ra2⟩, -⟩, -, ea⟩ := ki a a1 a2
  obtain ⟨⟨⟨cb1, cb2⟩, ⟨rb1, rb2⟩, -⟩, -, eb⟩ := ki b b1 b2
  obtain ⟨ea1, ea2, ea3, -, -⟩ := ea hta
  obtain ⟨eb1, eb2, eb3, -, -⟩ := eb htb
  have ex : zi_rem (24 * y + x) 24 = x := by rw [zi_rem_eq (by omega) (by omega) (by decide) (by decide)]; omega
  have ey : zi_div (24 * y + x) 24 = y := by rw [zi_div_eq (by omega) (by omega) (by decide) (by decide)]; omega
  have esa : (m a + m 128) % 24 = yv_st h co a := by rw [ea1, k128]; rfl
  have esb : (m b + m 128) % 24 = yv_st h co b := by rw [eb1, k128]; rfl
  have hsa := yv_st_in (h := h) (co := co) (i := a)
  have hsb := yv_st_in (h := h) (co := co) (i := b)
  obtain ⟨g2, eg, w0, w1, w2, w3, w4, w5, w6⟩ := ze_M_feelsStar (g := g) (m := m) a1 a2 (by omega) (by omega) (by omega) (by omega)
  unfold zf_M_isDrawn
  rw [eg, zl_b, zi_w_id (x := 48 + b) (by omega) (by omega), zi_w_id (x := 24 + b) (by omega) (by omega), zi_w_id (x := 24 + a) (by omega) (by omega), zl_ci (by omega) (by omega), zl_ci (by omega) (by omega), ze_M_standsAt b1 b2 (by omega) (by omega) (by omega) (by omega), ze_M_standsAt a1 a2 (by omega) (by omega) (by omega) (by omega), zl_b, zl_b, zl_ci (by omega) (by omega), zl_b, esa, esb, ea2, eb2, ex, ey, ze_way hsa.1 hsa.2 hsb.1 hsb.2 ra1 ra2 rb1 rb2, zl_b]
  generalize hlt : zv_up (zv_up (zv_up (zv_up (zv_up (zv_up (zv_up g2 6 b) 7 (m (48 + b))) 8 (ro b)) 9 (yv_st h co b)) 10 x) 11 y) 12 (yg_cb (yv_st h co b) (yv_st h co a) + yg_ab (ro a - ro b)) = lt
  have hbj : yv_bj h u x y lt := by
    rw [← hlt]
    exact ⟨w0.trans k128, w1.trans k129, rfl, rfl⟩
  have hel : yl_any L 106 lt = yv_dr L h u co ro br x y a b := by
    refine yl_any_c R (yv_lj_of hbj ?_ ?_ ?_ ?_ ?_ ?_ ?_ ?_ ?_)
    · rw [← hlt]; exact w2
    · rw [← hlt]; exact w3.trans ea3
    · rw [← hlt]; exact w4.trans ea2
    · rw [← hlt]; exact w5.trans esa
    · rw [← hlt]; rfl
    · rw [← hlt]; exact eb3
    · rw [← hlt]; rfl
    · rw [← hlt]; rfl
    · rw [← hlt]
      show yg_cb (yv_st h co b) (yv_st h co a) + yg_ab (ro a - ro b) = yg_cb (co a) (co b) + yg_ab (ro a - ro b)
      unfold yv_st
      rw [yg_turn ca1 ca2 cb1 cb2 h1 h2]
  obtain ⟨S', e1⟩ := yl_anyM (lt := lt) R (k := 106) (S := S)
  rw [e1, zl_b, hel]
  by_cases n6 : yv_dr L h u co ro br x y a b = true
  · rw [if_pos n6]
    exact ⟨_, _, rfl⟩
  · rw [if_neg n6]
    exact ⟨_, _, rfl⟩
end YVD
