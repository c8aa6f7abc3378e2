/-! 85a.steer, 85b.steered, 86a.stars, 86b.ops, 87a.tape, 87b.kept, 87c.count, 88a.tale, 88b.read, 88c.telling -/
section
/-! Ways over the sea, and one hour by a star: alike on both sides. -/
def yk_sea (ts : Int) (gp gl m : Int → Int) : Prop := zl_rel ts gp gl m ∧ ∀ s, 0 ≤ s → s < 6 → 0 ≤ gp s ∧ gp s < 288
def yg_ld (gl : Int → Int) (p : Int) : Bool := zi_tb (gl (p / 24)) (p % 24)
def yg_go (p how : Int) : Int := if how = 1 then 24 * (p / 24) + (p % 24 + 1) % 24 else if how = 2 then 24 * (p / 24) + (p % 24 + 23) % 24 else if how = 3 then (if p / 24 = 11 then -1 else p + 24) else if how = 4 then (if p / 24 = 0 then -1 else p - 24) else p
theorem yg_go_in {p how : Int} (h1 : 0 ≤ p) (h2 : p < 288) : -1 ≤ yg_go p how ∧ yg_go p how < 288 := by
  unfold yg_go
  (repeat' split) <;> omega
section YSE
variable {ts p how : Int} {gp gl m : Int → Int}
theorem ze_isLandX (k : yk_sea ts gp gl m) (h1 : 0 ≤ p) (h2 : p < 288) : zf_Sea_isLand p gl = some (if yg_ld gl p = true then 1 else 0) := by
  obtain ⟨⟨-, -, -, -, hr, -⟩, -⟩ := k
  have hy := hr (p / 24) (by omega) (by omega)
  unfold zf_Sea_isLand yg_ld
  rw [ze_X_rowOf h1 h2, zl_b, zl_ci (by omega) (by omega), ze_X_columnOf h1 h2, zl_b]
  obtain ⟨c1, c2⟩ := zs_b01 (t := gl (p / 24)) (i := p % 24) hy.1 (by omega) (by omega) (by omega)
  by_cases h : zi_tb (gl (p / 24)) (p % 24) = true
  · rw [c1 h, if_neg (by decide), if_pos h]
  · rw [c2 h, if_pos rfl, if_neg h]
theorem ze_isLandM (k : yk_sea ts gp gl m) (h1 : 0 ≤ p) (h2 : p < 288) : zf_M_isLand p m = some (if yg_ld gl p = true then 1 else 0) := by
  obtain ⟨⟨-, -, -, -, -, hl⟩, -⟩ := k
  have hp := hl (p % 24) (p / 24) (by omega) (by omega) (by omega) (by omega)
  rw [show 134 + (24 * (p / 24) + p % 24) = 134 + p by omega] at hp
  unfold zf_M_isLand yg_ld
  rw [zi_w_id (x := 134 + p) (by omega) (by omega), zl_ci (by omega) (by omega), hp]
  by_cases h : zi_tb (gl (p / 24)) (p % 24) = true
  · rw [if_pos h, if_pos rfl]
  · rw [if_neg h, if_neg (by decide)]
theorem ze_goesTo (h1 : 0 ≤ p) (h2 : p < 288) : zf_M_goesTo p how = some (yg_go p how) := by
  have e1 : zi_div p 24 = p / 24 := zi_div_eq h1 (by omega) (by decide) (by decide)
  have e2 : zi_rem p 24 = p % 24 := zi_rem_eq h1 (by omega) (by decide) (by decide)
  unfold zf_M_goesTo yg_go
  rw [e1, e2, zi_w_id (x := 24 * (p / 24)) (by omega) (by omega), zi_w_id (x := p % 24 + 1) (by omega) (by omega), zi_w_id (x := p % 24 + 24) (by omega) (by omega), zi_w_id (x := p % 24 + 24 - 1) (by omega) (by omega), zi_w_id (x := p / 24 + 1) (by omega) (by omega), zi_w_id (x := p / 24 - 1) (by omega) (by omega), zi_rem_eq (a := p % 24 + 1) (by omega) (by omega) (by decide) (by decide), zi_rem_eq (a := p % 24 + 24 - 1) (by omega) (by omega) (by decide) (by decide)]
  rw [zi_w_id (x := 24 * (p / 24) + (p % 24 + 1) % 24) (by omega) (by omega), zi_w_id (x := 24 * (p / 24) + (p % 24 + 24 - 1) % 24) (by omega) (by omega), zi_w_id (x := 24 * (p / 24 + 1)) (by omega) (by omega), zi_w_id (x := 24 * (p / 24 + 1) + p % 24) (by omega) (by omega), zi_w_id (x := 24 * (p / 24 - 1)) (by omega) (by omega), zi_w_id (x := 24 * (p / 24 - 1) + p % 24) (by omega) (by omega), zi_w_id (x := 24 * (p / 24) + p % 24) (by omega) (by omega)]
  by_cases a1 : how = 1
  · rw [if_pos a1, if_pos a1, if_neg (by omega), if_pos (by omega)]
  rw [if_neg a1, if_neg a1]
  by_cases a2 : how = 2
  · rw [if_pos a2, if_pos a2, if_neg (by omega), if_pos (by omega), show p % 24 + 24 - 1 = p % 24 + 23 by omega]
  rw [if_neg a2, if_neg a2]
  by_cases a3 : how = 3
  · rw [if_pos a3, if_pos a3, if_neg (by omega)]
    by_cases h11 : p / 24 = 11
    · rw [if_pos h11, if_neg (by omega)]
    · rw [if_neg h11, if_pos (by omega), show 24 * (p / 24 + 1) + p % 24 = p + 24 by omega]
  rw [if_neg a3, if_neg a3]
  by_cases a4 : how = 4
  · rw [if_pos a4, if_pos a4]
    by_cases h0 : p / 24 = 0
    · rw [if_pos h0, if_pos (by omega)]
    · rw [if_neg h0, if_neg (by omega), if_pos (by omega), show 24 * (p / 24 - 1) + p % 24 = p - 24 by omega]
  rw [if_neg a4, if_neg a4, if_neg (by omega), if_pos (by omega), show 24 * (p / 24) + p % 24 = p by omega]
/-- the end of goFrom, at a place -/
theorem ze_goEnd (k : yk_sea ts gp gl m) {x y : Int} : ((zf_X_isPlace x y).bind fun r4 => (if r4 = 0 then (some (-1)) else ((zf_X_placeOf x y).bind fun r6 => ((zf_Sea_isLand r6 gl).bind fun r7 => (if r7 = 0 then ((zf_X_placeOf x y).bind fun r9 => (some r9)) else (some (-1 : Int))))))) = some (if zs_pl x y = 0 ∨ yg_ld gl (24 * y + x) = true then -1 else 24 * y + x) := by
  rw [ze_X_isPlace, zl_b]
  by_cases h : zs_pl x y = 0
  · rw [if_pos h, if_pos (Or.inl h)]
  · obtain ⟨x1, x2, y1, y2⟩ := zs_pl_ne h
    rw [if_neg h, ze_X_placeOf x1 x2 y1 y2, zl_b, ze_isLandX k (by omega) (by omega), zl_b]
    by_cases hl : yg_ld gl (24 * y + x) = true
    · rw [if_pos hl, if_neg (by decide), if_pos (Or.inr hl)]
    · rw [if_neg hl, if_pos rfl, zl_b, if_neg (fun hh => hh.elim h hl)]
theorem zs_pl1 {x y : Int} (h : 0 ≤ x ∧ x < 24 ∧ 0 ≤ y ∧ y < 12) : ¬ zs_pl x y = 0 := by
  unfold zs_pl
  rw [if_pos h]; decide
theorem zs_pl0 {x y : Int} (h : ¬ (0 ≤ x ∧ x < 24 ∧ 0 ≤ y ∧ y < 12)) : zs_pl x y = 0 := by
  unfold zs_pl
  rw [if_neg h]
theorem ze_goFrom (k : yk_sea ts gp gl m) (h1 : 0 ≤ p) (h2 : p < 288) : zf_Sea_goFrom p how gl = some (if yg_go p how = -1 ∨ yg_ld gl (yg_go p how) = true then -1 else yg_go p how) := by
  unfold zf_Sea_goFrom
  rw [ze_X_columnOf h1 h2, ze_X_rowOf h1 h2, zl_b, zl_b, zi_w_id (x := p % 24 + 1) (by omega) (by omega), zi_w_id (x := p % 24 + 24) (by omega) (by omega), zi_w_id (x := p % 24 + 24 - 1) (by omega) (by omega), zi_w_id (x := p / 24 + 1) (by omega) (by omega), zi_w_id (x := p / 24 + -1) (by omega) (by omega), zi_rem_eq (a := p % 24 + 1) (by omega) (by omega) (by decide) (by decide), zi_rem_eq (a := p % 24 + 24 - 1) (by omega) (by omega) (by decide) (by decide)]
  rw [ze_goEnd k, ze_goEnd k, ze_goEnd k, ze_goEnd k, ze_goEnd k]
  unfold yg_go
  by_cases a1 : how = 1
  · rw [if_pos a1, if_pos a1]
    have n1 : ¬ (24 * (p / 24) + (p % 24 + 1) % 24 = -1) := by omega
    have n2 : ¬ zs_pl ((p % 24 + 1) % 24) (p / 24) = 0 := zs_pl1 (by omega)
    by_cases hl : yg_ld gl (24 * (p / 24) + (p % 24 + 1) % 24) = true
    · rw [if_pos (Or.inr hl), if_pos (Or.inr hl)]
    · rw [if_neg (fun hh => hh.elim n2 hl), if_neg (fun hh => hh.elim n1 hl)]
  rw [if_neg a1, if_neg a1]
  by_cases a2 : how = 2
  · rw [if_pos a2, if_pos a2, show p % 24 + 24 - 1 = p % 24 + 23 by omega]
    have n1 : ¬ (24 * (p / 24) + (p % 24 + 23) % 24 = -1) := by omega
    have n2 : ¬ zs_pl ((p % 24 + 23) % 24) (p / 24) = 0 := zs_pl1 (by omega)
    by_cases hl : yg_ld gl (24 * (p / 24) + (p % 24 + 23) % 24) = true
    · rw [if_pos (Or.inr hl), if_pos (Or.inr hl)]
    · rw [if_neg (fun hh => hh.elim n2 hl), if_neg (fun hh => hh.elim n1 hl)]
  rw [if_neg a2, if_neg a2]
  by_cases a3 : how = 3
  · rw [if_pos a3, if_pos a3]
    by_cases h11 : p / 24 = 11
    · rw [if_pos h11, if_pos (Or.inl (zs_pl0 (by omega))), if_pos (Or.inl rfl)]
    · rw [if_neg h11, show 24 * (p / 24 + 1) + p % 24 = p + 24 by omega]
      have n2 : ¬ zs_pl (p % 24) (p / 24 + 1) = 0 := zs_pl1 (by omega)
      by_cases hl : yg_ld gl (p + 24) = true
      · rw [if_pos (Or.inr hl), if_pos (Or.inr hl)]
      · rw [if_neg (fun hh => hh.elim n2 hl), if_neg (fun hh => hh.elim (fun e => by omega) hl)]
  rw [if_neg a3, if_neg a3]
  by_cases a4 : how = 4
  · rw [if_pos a4, if_pos a4]
    by_cases h0 : p / 24 = 0
    · rw [if_pos h0, if_pos (Or.inl (zs_pl0 (by omega))), if_pos (Or.inl rfl)]
    · rw [if_neg h0, show 24 * (p / 24 + -1) + p % 24 = p - 24 by omega]
      have n2 : ¬ zs_pl (p % 24) (p / 24 + -1) = 0 := zs_pl1 (by omega)
      by_cases hl : yg_ld gl (p - 24) = true
      · rw [if_pos (Or.inr hl), if_pos (Or.inr hl)]
      · rw [if_neg (fun hh => hh.elim n2 hl), if_neg (fun hh => hh.elim (fun e => by omega) hl)]
  rw [if_neg a4, if_neg a4, show 24 * (p / 24) + p % 24 = p by omega]
  have n2 : ¬ zs_pl (p % 24) (p / 24) = 0 := zs_pl1 (by omega)
  by_cases hl : yg_ld gl p = true
  · rw [if_pos (Or.inr hl), if_pos (Or.inr hl)]
  · rw [if_neg (fun hh => hh.elim n2 hl), if_neg (fun hh => hh.elim (fun e => by omega) hl)]
end YSE
/-- where one goes, a star being so far to the right, and up -/
def yg_st (gl : Int → Int) (p r up : Int) : Int := if yg_ab r < yg_ab up then (if yg_ld gl (p + 24 * (if 0 < up then 1 else if up < 0 then -1 else 0)) = true then p else p + 24 * (if 0 < up then 1 else if up < 0 then -1 else 0)) else (if yg_ld gl (24 * (p / 24) + (p % 24 + (if 0 < r then 1 else if r < 0 then -1 else 0) + 24) % 24) = true then p else 24 * (p / 24) + (p % 24 + (if 0 < r then 1 else if r < 0 then -1 else 0) + 24) % 24)
section YST
variable {L : zLW} {K V kd fr hf to C mk mf mh mt : Int → Int} {nc tS tL sP lP mc : Int} {t h u cl sc sr ch ts p i : Int} {co ro br wc wr m gp gl : Int → Int}
theorem ym_steersFrom (R : yl_R L K V nc tS tL sP lP kd fr hf to mc C mk mf mh mt) (k : yk_sky t h u cl sc sr ch co ro br wc wr m) (z : yk_sea ts gp gl m) (p1 : 0 ≤ p) (p2 : p < 288) (i1 : 0 ≤ i) (i2 : i < 24) (hti : zb t i.toNat = true) {g S : Int → Int} :
    ∃ g' S', zf_M_steersFrom p i mc m mk g mh mt C S = some ((if yv_see L tS h u cl sc sr co ro br (p % 24) (p / 24) i = true then yg_st gl p (yg_tr (p % 24) (yv_st h co i)) (ro i - p / 24) else p), g', S') := by
  obtain ⟨g', S', e1⟩ := ym_isSeen (x := p % 24) (y := p / 24) (g := g) (S := S) R k i1 i2 hti (by omega) (by omega) (by omega) (by omega)
  rw [show 24 * (p / 24) + p % 24 = p by omega] at e1
  obtain ⟨⟨ht, k126⟩, ⟨⟨h1, h2⟩, k128⟩, k129, -, -, -, -, ki⟩ := k
  obtain ⟨⟨⟨c1, c2⟩, ⟨r1, r2⟩, -⟩, -, e⟩ := ki i i1 i2
  obtain ⟨ea, eb, -⟩ := e hti
  have hst := yv_st_in (h := h) (co := co) (i := i)
  have est : (m i + m 128) % 24 = yv_st h co i := by rw [ea, k128]; rfl
  have ed : zi_div p 24 = p / 24 := zi_div_eq p1 (by omega) (by decide) (by decide)
  have em : zi_rem p 24 = p % 24 := zi_rem_eq p1 (by omega) (by decide) (by decide)
  obtain ⟨t1, t2, t3, t4⟩ := ze_toRight (a := p % 24) (b := yv_st h co i) (by omega) (by omega) hst.1 hst.2
  refine ⟨g', S', ?_⟩
  unfold zf_M_steersFrom
  rw [e1, zl_b]
  by_cases hs : yv_see L tS h u cl sc sr co ro br (p % 24) (p / 24) i = true
  · rw [if_pos hs, if_neg (show ¬ (1 : Int) = 0 by decide), if_pos hs, ze_M_standsAt i1 i2 (by omega) (by omega) (by omega) (by omega), zl_b, est, em, ed, t1, zl_b, zi_w_id (x := 24 + i) (by omega) (by omega), zl_ci (by omega) (by omega), ze_M_size2 (by omega) (by omega), zl_b, eb, zi_w_id (x := ro i - p / 24) (by omega) (by omega), ze_M_size2 (by omega) (by omega), zl_b, ze_M_sign, zl_b, ze_M_sign, zl_b]
    unfold yg_st
    generalize hr : yg_tr (p % 24) (yv_st h co i) = r at t2 t3 ⊢
    generalize hup : ro i - p / 24 = up
    by_cases hc : yg_ab r < yg_ab up
    · rw [if_pos hc, if_pos hc]
      have hab := yg_ab_in (a := up)
      have hab2 := yg_ab_in (a := r)
      have hsg : ∃ s, (if 0 < up then (1 : Int) else if up < 0 then -1 else 0) = s ∧ ((s = 1 ∧ 0 < up) ∨ (s = -1 ∧ up < 0)) := by
        by_cases u1 : 0 < up
        · exact ⟨1, if_pos u1, Or.inl ⟨rfl, u1⟩⟩
        · refine ⟨-1, by rw [if_neg u1, if_pos (by omega)], Or.inr ⟨rfl, by omega⟩⟩
      obtain ⟨s, es, hs2⟩ := hsg
      have hin : 0 ≤ p + 24 * s ∧ p + 24 * s < 288 := by omega
      rw [es, zi_w_id (x := 24 * s) (by omega) (by omega), zi_w_id (x := p + 24 * s) (by omega) (by omega), ze_isLandM z hin.1 hin.2, zl_b]
      by_cases hl : yg_ld gl (p + 24 * s) = true
      · rw [if_pos hl, if_pos hl, if_neg (show ¬ (1 : Int) = 0 by decide)]
      · rw [if_neg hl, if_neg hl, if_pos rfl]
    · rw [if_neg hc, if_neg hc]
      have hsg : ∃ s, (if 0 < r then (1 : Int) else if r < 0 then -1 else 0) = s ∧ -1 ≤ s ∧ s ≤ 1 := ⟨_, rfl, by (repeat' split) <;> omega, by (repeat' split) <;> omega⟩
      obtain ⟨s, es, hs2, hs3⟩ := hsg
      rw [es, zi_w_id (x := 24 * (p / 24)) (by omega) (by omega), zi_w_id (x := p % 24 + s) (by omega) (by omega), zi_w_id (x := p % 24 + s + 24) (by omega) (by omega), zi_rem_eq (a := p % 24 + s + 24) (by omega) (by omega) (by decide) (by decide), zi_w_id (x := 24 * (p / 24) + (p % 24 + s + 24) % 24) (by omega) (by omega), ze_isLandM z (by omega) (by omega), zl_b]
      by_cases hl : yg_ld gl (24 * (p / 24) + (p % 24 + s + 24) % 24) = true
      · rw [if_pos hl, if_pos hl, if_neg (show ¬ (1 : Int) = 0 by decide)]
      · rw [if_neg hl, if_neg hl, if_pos rfl]
  · rw [if_neg hs, if_pos rfl, if_neg hs]
theorem yg_st_in {r up : Int} (p1 : 0 ≤ p) (p2 : p < 288) (u1 : 0 ≤ up + p / 24) (u2 : up + p / 24 ≤ 11) : 0 ≤ yg_st gl p r up ∧ yg_st gl p r up < 288 := by
  have key : ∀ s : Int, ((s = 1 ∧ 0 < up) ∨ (s = -1 ∧ up < 0) ∨ s = 0) → 0 ≤ p + 24 * s ∧ p + 24 * s < 288 := fun s hs => by omega
  unfold yg_st
  by_cases hc : yg_ab r < yg_ab up
  · rw [if_pos hc]
    have := key (if 0 < up then 1 else if up < 0 then -1 else 0) (by (repeat' split) <;> omega)
    split <;> omega
  · rw [if_neg hc]
    split <;> omega
end YST
end
section
/-! One hour by a star in the class, and steered on both sides. -/
theorem zl_bb {α β γ : Type} {x : Option α} {f : α → Option β} {g : β → Option γ} : ((x.bind f).bind g) = x.bind fun a => (f a).bind g := by cases x <;> rfl
section YSX
variable {L : zLW} {K V kd fr hf to C mk mf mh mt : Int → Int} {nc tS tL sP lP mc : Int} {t h u cl sc sr ch ts p i : Int} {co ro br wc wr m gp gl : Int → Int}
theorem yx_step (R : yl_R L K V nc tS tL sP lP kd fr hf to mc C mk mf mh mt) (k : yk_sky t h u cl sc sr ch co ro br wc wr m) (z : yk_sea ts gp gl m) (p1 : 0 ≤ p) (p2 : p < 288) (i1 : 0 ≤ i) (i2 : i < 24) (hti : zb t i.toNat = true) {f2 f3 as ho f14 : Int} {g S : Int → Int} (hc : yv_ca L sP h u co ro br as ho) :
    ∃ as' ho' a' g' S', zf_Pilot_step p i f2 f3 h u t sc sr cl tS as ho nc f14 sP g co ro br kd hf to K S V gl = some ((if yv_see L tS h u cl sc sr co ro br (p % 24) (p / 24) i = true then yg_st gl p (yg_tr (p % 24) (yv_st h co i)) (ro i - p / 24) else p), p % 24, p / 24, as', ho', a', g', S') ∧ yv_ca L sP h u co ro br as' ho' := by
  obtain ⟨⟨ht, k126⟩, ⟨⟨h1, h2⟩, k128⟩, k129, ⟨hcl, -⟩, -, -, -, ki⟩ := k
  obtain ⟨⟨⟨c1, c2⟩, ⟨r1, r2⟩, -⟩, -, -⟩ := ki i i1 i2
  obtain ⟨g1, eg, hg⟩ := ze_goTo (x := p % 24) (y := p / 24) (f0 := f2) (f1 := f3) (h := h) (u := u) (g := g)
  obtain ⟨as', ho', a', g', S', e1, hg', hc'⟩ := yx_sees (t := t) (cl := cl) (sc := sc) (sr := sr) (f13 := f14) (S := S) (x := p % 24) (y := p / 24) R ht hcl h1 h2 i1 i2 c1 c2 r1 r2 (by omega) (by omega) (by omega) (by omega) hg hc
  refine ⟨as', ho', a', g', S', ?_, hc'⟩
  have hst := yv_st_in (h := h) (co := co) (i := i)
  unfold zf_Pilot_step
  rw [ze_X_columnOf p1 p2, zl_b, ze_X_rowOf p1 p2, zl_b, eg, zl_b]
  show ((zf_View_sees i t h (p % 24) (p / 24) sc sr cl tS as ho nc f14 sP co ro g1 br kd hf to K S V).bind _) = _
  rw [e1, zl_b, hti, Bool.true_and]
  by_cases hs : yv_see L tS h u cl sc sr co ro br (p % 24) (p / 24) i = true
  · rw [if_pos hs, if_neg (show ¬ (1 : Int) = 0 by decide), if_pos hs, ze_Sky_standing i1 i2 c1 c2 h1 h2, zl_b, show (co i + h) % 24 = yv_st h co i from rfl, zi_w_id (x := yv_st h co i - p % 24) (by omega) (by omega), ze_floorMod (by omega) (by omega), zl_b, zi_w_id (x := 24 - (yv_st h co i - p % 24) % 24) (by omega) (by omega), ze_Math_min, zl_b, zl_ci i1 (by omega), zi_w_id (x := ro i - p / 24) (by omega) (by omega), ze_Math_ab2 (by omega) (by omega), zl_b]
    have e7 : ∃ r7, (yv_st h co i - p % 24) % 24 = r7 ∧ 0 ≤ r7 ∧ r7 ≤ 23 ∧ yg_tr (p % 24) (yv_st h co i) = if 12 < r7 then r7 - 24 else r7 := by
      refine ⟨_, rfl, by omega, by omega, ?_⟩
      unfold yg_tr
      (repeat' split) <;> omega
    obtain ⟨r7, er7, q1, q2, etr⟩ := e7
    have e8 : ∃ r8, (if 24 - r7 < r7 then 24 - r7 else r7) = r8 ∧ 0 ≤ r8 ∧ yg_ab (yg_tr (p % 24) (yv_st h co i)) = r8 ∧ (r8 = 0 ↔ r7 = 0) := by
      refine ⟨_, rfl, ?_, ?_, ?_⟩
      · split <;> omega
      · rw [etr]
        unfold yg_ab
        (repeat' split) <;> omega
      · split <;> omega
    obtain ⟨r8, er8, q3, eab, q4⟩ := e8
    rw [er7, er8]
    generalize hup : ro i - p / 24 = up
    have u1 : 0 ≤ up + p / 24 := by omega
    have u2 : up + p / 24 ≤ 11 := by omega
    have hab := yg_ab_in (a := up)
    have nxt : ∀ how q, yg_go p how = q → q ≠ -1 → ((zf_Sea_goFrom p how gl).bind fun r29 => (if r29 = (-1) then (some (p, p % 24, p / 24, as', ho', a', g', S')) else (some (r29, p % 24, p / 24, as', ho', a', g', S')))) = some ((if yg_ld gl q = true then p else q), p % 24, p / 24, as', ho', a', g', S') := by
      intro how q eq hq
      rw [ze_goFrom z p1 p2, zl_b, eq]
      by_cases hl : yg_ld gl q = true
      · rw [if_pos (Or.inr hl), if_pos rfl, if_pos hl]
      · rw [show (if q = -1 ∨ yg_ld gl q = true then -1 else q) = q from if_neg (fun hh => hh.elim hq hl), if_neg hq, if_neg hl]
    have tail : ¬ (r8 = 0 ∧ up = 0) → (if r8 < yg_ab up then (if 0 < up then ((zf_Sea_goFrom p 3 gl).bind fun r29 => (if r29 = (-1) then (some (p, p % 24, p / 24, as', ho', a', g', S')) else (some (r29, p % 24, p / 24, as', ho', a', g', S')))) else ((zf_Sea_goFrom p 4 gl).bind fun r27 => (if r27 = (-1) then (some (p, p % 24, p / 24, as', ho', a', g', S')) else (some (r27, p % 24, p / 24, as', ho', a', g', S'))))) else (if 12 < r7 then ((zf_Sea_goFrom p 2 gl).bind fun r32 => (if r32 = (-1) then (some (p, p % 24, p / 24, as', ho', a', g', S')) else (some (r32, p % 24, p / 24, as', ho', a', g', S')))) else ((zf_Sea_goFrom p 1 gl).bind fun r34 => (if r34 = (-1) then (some (p, p % 24, p / 24, as', ho', a', g', S')) else (some (r34, p % 24, p / 24, as', ho', a', g', S'))))))
        = some (yg_st gl p (yg_tr (p % 24) (yv_st h co i)) up, p % 24, p / 24, as', ho', a', g', S') := by
      intro hno
      unfold yg_st
      rw [eab, etr]
      by_cases hcmp : r8 < yg_ab up
      · rw [if_pos hcmp, if_pos hcmp]
        by_cases hu : 0 < up
        · rw [if_pos hu, if_pos hu]
          exact nxt 3 (p + 24 * 1) (by unfold yg_go; rw [if_neg (by decide), if_neg (by decide), if_pos rfl, if_neg (by omega)]; rfl) (by omega)
        · have hu2 : up < 0 := by omega
          rw [if_neg hu, if_neg hu, if_pos hu2]
          exact nxt 4 (p + 24 * -1) (by unfold yg_go; rw [if_neg (by decide), if_neg (by decide), if_neg (by decide), if_pos rfl, if_neg (by omega)]; omega) (by omega)
      · rw [if_neg hcmp, if_neg hcmp]
        by_cases h12 : 12 < r7
        · rw [if_pos h12, if_pos h12, if_neg (show ¬ 0 < r7 - 24 by omega), if_pos (show r7 - 24 < 0 by omega)]
          exact nxt 2 _ (by unfold yg_go; rw [if_neg (by decide), if_pos rfl, show p % 24 + -1 + 24 = p % 24 + 23 by omega]) (by omega)
        · have hr7 : 0 < r7 := by
            apply Int.not_le.mp
            intro hle
            exact hno ⟨q4.mpr (by omega), by omega⟩
          rw [if_neg h12, if_neg h12, if_pos hr7]
          exact nxt 1 _ (by unfold yg_go; rw [if_pos rfl]; omega) (by omega)
    by_cases h8 : r8 = 0
    · rw [if_pos h8]
      by_cases hu : up = 0
      · rw [if_pos hu]
        have : yg_st gl p (yg_tr (p % 24) (yv_st h co i)) up = p := by
          unfold yg_st
          rw [eab, etr, h8, hu, if_neg (by unfold yg_ab; decide)]
          have h7 := q4.mp h8
          rw [h7, if_neg (show ¬ (12 : Int) < 0 by decide), if_neg (show ¬ (0 : Int) < 0 by decide), if_neg (show ¬ (0 : Int) < 0 by decide), show 24 * (p / 24) + (p % 24 + 0 + 24) % 24 = p by omega]
          split <;> rfl
        rw [this]
      · rw [if_neg hu]
        exact tail (fun hh => hu hh.2)
    · rw [if_neg h8]
      exact tail (fun hh => h8 hh.1)
  · rw [if_neg hs, if_pos rfl, if_neg hs]
theorem yk_sea_fr (z : yk_sea ts gp gl m) {m2 : Int → Int} (e : ∀ j, (120 ≤ j ∧ j ≤ 125) ∨ j = 127 ∨ 134 ≤ j → m2 j = m j) : yk_sea ts gp gl m2 := by
  obtain ⟨⟨z1, z2, z3, z4, z5, z6⟩, z7⟩ := z
  refine ⟨⟨z1, z2, (e _ (Or.inr (Or.inl rfl))).trans z3, fun s s1 s2 => (e _ (by omega)).trans (z4 s s1 s2), z5, fun x y x1 x2 y1 y2 => (e _ (by omega)).trans (z6 x y x1 x2 y1 y2)⟩, z7⟩
theorem yk_sea_up (z : yk_sea ts gp gl m) {s q : Int} (s1 : 0 ≤ s) (s2 : s < 6) (q1 : 0 ≤ q) (q2 : q < 288) : yk_sea ts (zv_up gp s q) gl (zv_up m (120 + s) q) := by
  obtain ⟨⟨z1, z2, z3, z4, z5, z6⟩, z7⟩ := z
  refine ⟨⟨z1, z2, by rw [zv_up_n (by omega)]; exact z3, fun j j1 j2 => ?_, z5, fun x y x1 x2 y1 y2 => by rw [zv_up_n (by omega)]; exact z6 x y x1 x2 y1 y2⟩, fun j j1 j2 => ?_⟩
  · by_cases e : j = s
    · rw [e, zv_up_s, zv_up_s]
    · rw [zv_up_n e, zv_up_n (by omega)]; exact z4 j j1 j2
  · by_cases e : j = s
    · rw [e, zv_up_s]; exact ⟨q1, q2⟩
    · rw [zv_up_n e]; exact z7 j j1 j2
theorem yk_sky_fr (k : yk_sky t h u cl sc sr ch co ro br wc wr m) {m2 : Int → Int} (e : ∀ j, j < 120 ∨ j = 126 ∨ (128 ≤ j ∧ j ≤ 133) → m2 j = m j) : yk_sky t h u cl sc sr ch co ro br wc wr m2 := by
  obtain ⟨⟨ht, k126⟩, hk2, k129, hk4, hk5, hk6, hk7, ki⟩ := k
  refine ⟨⟨ht, (e _ (by omega)).trans k126⟩, ⟨hk2.1, (e _ (by omega)).trans hk2.2⟩, (e _ (by omega)).trans k129, ⟨hk4.1, (e _ (by omega)).trans hk4.2⟩, ⟨hk5.1, (e _ (by omega)).trans hk5.2⟩, ⟨hk6.1, (e _ (by omega)).trans hk6.2⟩, ⟨hk7.1, (e _ (by omega)).trans hk7.2⟩, fun i i0 i1 => ?_⟩
  rw [e i (by omega), e (24 + i) (by omega), e (48 + i) (by omega), e (72 + i) (by omega), e (96 + i) (by omega)]
  exact ki i i0 i1
theorem ze_open {f : Int} {g : Int → Int} : ∃ g2, zf_View_open f g = some (0, g2) ∧ ∀ i, 0 ≤ i → i < 24 → g2 i = 0 := by
  obtain ⟨g2, e, a⟩ := ze_fill24 (v := 0) (g := g)
  refine ⟨g2, ?_, a⟩
  unfold zf_View_open
  rw [e]; rfl
theorem yk_steered_l (R : yl_R L K V nc tS tL sP lP kd fr hf to mc C mk mf mh mt) {s dr N : Int} (hN : N ≤ 48) (s1 : 0 ≤ s) (s2 : s < 6) (i1 : 0 ≤ i) (i2 : i < 24) (hti : zb t i.toNat = true) : ∀ (d : Nat) (j p as vx vy h u cl ho f ch : Int) (pa g co ro S : Int → Int) (m g2 S2 gp : Int → Int) (n n2 : Nat), N - j ≤ d → 0 ≤ j → d < n → d < n2 → yk_sky t h u cl sc sr ch co ro br wc wr m → yk_sea ts gp gl m → gp s = p →
    ∃ p' as' vx' vy' h' u' cl' ho' f' ch' pa' g' co' ro' S' m' g2' S2', zf_X_steered_l0 i N dr t sc sr tS nc sP br kd hf to K V gl wc wr fr n p j as vx vy h u cl ho f ch pa g co ro S = some (p', as', vx', vy', h', u', cl', ho', f', ch', pa', g', co', ro', S') ∧
      zf_M_steered_l0 s i N dr mc mk mh mt C mf n2 j m g2 S2 = some (m', g2', S2') ∧ yk_sky t h' u' cl' sc sr ch' co' ro' br wc wr m' ∧ yk_sea ts (zv_up gp s p') gl m' ∧ (0 ≤ p' ∧ p' < 288) := by
  intro d
  induction d with
  | zero =>
    intro j p as vx vy h u cl ho f ch pa g co ro S m g2 S2 gp n n2 hd j0 hn hn2 k z hp
    obtain ⟨n, rfl⟩ : ∃ q, n = q + 1 := ⟨n - 1, by omega⟩
    obtain ⟨n2, rfl⟩ : ∃ q, n2 = q + 1 := ⟨n2 - 1, by omega⟩
    have hb := z.2 s s1 s2
    refine ⟨p, as, vx, vy, h, u, cl, ho, f, ch, pa, g, co, ro, S, m, g2, S2, ?_, ?_, k, ?_, by omega⟩
    · show zf_X_steered_l0_b i N dr t sc sr tS nc sP br kd hf to K V gl wc wr fr (zf_X_steered_l0 i N dr t sc sr tS nc sP br kd hf to K V gl wc wr fr n) p j as vx vy h u cl ho f ch pa g co ro S = _
      unfold zf_X_steered_l0_b
      rw [if_neg (by omega)]
    · show zf_M_steered_l0_b s i N dr mc mk mh mt C mf (zf_M_steered_l0 s i N dr mc mk mh mt C mf n2) j m g2 S2 = _
      unfold zf_M_steered_l0_b
      rw [if_neg (by omega)]
    · have : zv_up gp s p = gp := funext fun x => by
        by_cases e : x = s
        · rw [e, zv_up_s, hp]
        · rw [zv_up_n e]
      rw [this]; exact z
  | succ d ih =>
    intro j p as vx vy h u cl ho f ch pa g co ro S m g2 S2 gp n n2 hd j0 hn hn2 k z hp
    obtain ⟨n, rfl⟩ : ∃ q, n = q + 1 := ⟨n - 1, by omega⟩
    obtain ⟨n2, rfl⟩ : ∃ q, n2 = q + 1 := ⟨n2 - 1, by omega⟩
    have hb := z.2 s s1 s2
    show ∃ p' as' vx' vy' h' u' cl' ho' f' ch' pa' g' co' ro' S' m' g2' S2', zf_X_steered_l0_b i N dr t sc sr tS nc sP br kd hf to K V gl wc wr fr (zf_X_steered_l0 i N dr t sc sr tS nc sP br kd hf to K V gl wc wr fr n) p j as vx vy h u cl ho f ch pa g co ro S = _ ∧ zf_M_steered_l0_b s i N dr mc mk mh mt C mf (zf_M_steered_l0 s i N dr mc mk mh mt C mf n2) j m g2 S2 = _ ∧ _
    unfold zf_X_steered_l0_b zf_M_steered_l0_b
    by_cases hj : j < N
    · rw [if_pos hj, if_pos hj, zi_w_id (x := j + 1) (by omega) (by omega)]
      obtain ⟨pa0, ep, -⟩ := ze_open (f := as) (g := pa)
      unfold zf_M_steers
      rw [zi_w_id (x := 120 + s) (by omega) (by omega)]
      have fin : ∀ (cl1 ch1 f1 : Int) (g1 S1 : Int → Int) (m1 g3 S3 : Int → Int), yk_sky t h u cl1 sc sr ch1 co ro br wc wr m1 → yk_sea ts gp gl m1 →
          ∃ p' as' vx' vy' h' u' cl' ho' f' ch' pa' g' co' ro' S' m' g2' S2', ((zf_Pilot_step p i vx vy h u t sc sr cl1 tS 0 ho nc f1 sP g1 co ro br kd hf to K S1 V gl).bind fun r11 => ((zf_Sky_passHour h u co wc ro wr).bind fun r12 => (zf_X_steered_l0 i N dr t sc sr tS nc sP br kd hf to K V gl wc wr fr n r11.1 (j + 1) r11.2.2.2.1 r11.2.1 r11.2.2.1 r12.1 r12.2.1 cl1 r11.2.2.2.2.1 r11.2.2.2.2.2.1 ch1 pa0 r11.2.2.2.2.2.2.1 r12.2.2.1 r12.2.2.2 r11.2.2.2.2.2.2.2))) = some (p', as', vx', vy', h', u', cl', ho', f', ch', pa', g', co', ro', S') ∧
            ((zf_M_steersFrom (m1 (120 + s)) i mc m1 mk g3 mh mt C S3).bind fun r3 => ((zf_M_passes (zv_up m1 (120 + s) r3.1)).bind fun r4 => (zf_M_steered_l0 s i N dr mc mk mh mt C mf n2 (j + 1) r4 r3.2.1 r3.2.2))) = some (m', g2', S2') ∧ yk_sky t h' u' cl' sc sr ch' co' ro' br wc wr m' ∧ yk_sea ts (zv_up gp s p') gl m' ∧ (0 ≤ p' ∧ p' < 288) := by
        intro cl1 ch1 f1 g1 S1 m1 g3 S3 k1 z1
        have hps : m1 (120 + s) = p := (z1.1.2.2.2.1 s s1 s2).trans hp
        obtain ⟨as', ho', a', g', S', e1, e2⟩ := yx_step (f2 := vx) (f3 := vy) (f14 := f1) (g := g1) (S := S1) (ho := ho) R k1 z1 (show 0 ≤ p by omega) (by omega) i1 i2 hti yv_ca0
        obtain ⟨g4, S4, e3⟩ := ym_steersFrom (g := g3) (S := S3) R k1 z1 (show 0 ≤ p by omega) (by omega) i1 i2 hti
        have ri := (k1.2.2.2.2.2.2.2 i i1 i2).1.2.1
        have hin : 0 ≤ (if yv_see L tS h u cl1 sc sr co ro br (p % 24) (p / 24) i = true then yg_st gl p (yg_tr (p % 24) (yv_st h co i)) (ro i - p / 24) else p) ∧ (if yv_see L tS h u cl1 sc sr co ro br (p % 24) (p / 24) i = true then yg_st gl p (yg_tr (p % 24) (yv_st h co i)) (ro i - p / 24) else p) < 288 := by
          split
          · exact yg_st_in (by omega) (by omega) (by omega) (by omega)
          · omega
        rw [hps, e1, e3, zl_b, zl_b]
        generalize hQ : (if yv_see L tS h u cl1 sc sr co ro br (p % 24) (p / 24) i = true then yg_st gl p (yg_tr (p % 24) (yv_st h co i)) (ro i - p / 24) else p) = Q at hin
        have k2 := yk_sky_fr k1 (m2 := zv_up m1 (120 + s) Q) fun x hx => zv_up_n (by omega)
        have z2 := yk_sea_up z1 s1 s2 hin.1 hin.2
        obtain ⟨h', u', co', ro', m', e4, e5, e6, e7⟩ := yk_pass k2
        have z3 := yk_sea_fr z2 (m2 := m') fun x hx => e7 x (by omega) (by omega) (by omega)
        rw [e4, zl_b]
        show ∃ p' as' vx' vy' h' u' cl' ho' f' ch' pa' g' co' ro' S' m' g2' S2', _ ∧ ((zf_M_passes (zv_up m1 (120 + s) Q)).bind _) = _ ∧ _
        rw [e5, zl_b]
        obtain ⟨p2, as2, vx2, vy2, h2, u2, cl2, ho2, f2, ch2, pa2, gg2, co2, ro2, SS2, m3, g5, S5, x1, x2, x3, x4, x5⟩ := ih (j + 1) Q as' (p % 24) (p / 24) h' u' cl1 ho' a' ch1 pa0 g' co' ro' S' m' g4 S4 (zv_up gp s Q) n n2 (by omega) (by omega) (by omega) (by omega) e6 z3 zv_up_s
        refine ⟨p2, as2, vx2, vy2, h2, u2, cl2, ho2, f2, ch2, pa2, gg2, co2, ro2, SS2, m3, g5, S5, x1, x2, x3, ?_, x5⟩
        have : zv_up (zv_up gp s Q) s p2 = zv_up gp s p2 := funext fun x => by
          by_cases e : x = s
          · rw [e, zv_up_s, zv_up_s]
          · rw [zv_up_n e, zv_up_n e, zv_up_n e]
        rw [← this]; exact x4
      by_cases hdr : dr = 0
      · rw [if_pos hdr, if_pos hdr, ep, zl_b, zl_ci (by omega) (by omega)]
        obtain ⟨p', as', vx', vy', h', u', cl', ho', f', ch', pa', g', co', ro', S', m', g2', S2', x1, x2, x3⟩ := fin cl ch f g S m g2 S2 k z
        refine ⟨p', as', vx', vy', h', u', cl', ho', f', ch', pa', g', co', ro', S', m', g2', S2', x1, ?_, x3⟩
        simp only [zl_bb, zl_b]
        exact x2
      · rw [if_neg hdr, if_neg hdr]
        obtain ⟨ch1, cl1, f1, g1, S1, m1, g3, S3, y1, y2, y3, y4⟩ := yk_drawn (f := f) (g := g) (S := S) (g2 := g2) (S2 := S2) R k
        rw [y1, y2, zl_b, zl_b, ep, zl_b, zl_ci (by omega) (by omega)]
        obtain ⟨p', as', vx', vy', h', u', cl', ho', f', ch', pa', g', co', ro', S', m', g2', S2', x1, x2, x3⟩ := fin cl1 ch1 f1 g1 S1 m1 g3 S3 y3 (yk_sea_fr z fun x hx => y4 x (by omega) (by omega))
        refine ⟨p', as', vx', vy', h', u', cl', ho', f', ch', pa', g', co', ro', S', m', g2', S2', x1, ?_, x3⟩
        simp only [zl_bb, zl_b]
        exact x2
    · rw [if_neg hj, if_neg hj]
      refine ⟨p, as, vx, vy, h, u, cl, ho, f, ch, pa, g, co, ro, S, m, g2, S2, rfl, rfl, k, ?_, by omega⟩
      have : zv_up gp s p = gp := funext fun x => by
        by_cases e : x = s
        · rw [e, zv_up_s, hp]
        · rw [zv_up_n e]
      rw [this]; exact z
end YSX
end
section
/-! star, walk, gone, hour, clouds, sight, seed, starIs, hours, steered, over: alike on both sides. -/
section YOP
variable {t h u cl sc sr ch : Int} {co ro br wc wr m : Int → Int}
theorem yo_star {i c r b : Int} (k : yk_sky t h u cl sc sr ch co ro br wc wr m) : ∃ a t' co' ro' br' wc' wr' m', zf_X_star i c r b t co ro br wc wr = some (a, t', co', ro', br', wc', wr') ∧ zf_M_star i c r b m = some (a, m') ∧ yk_sky t' h u cl sc sr ch co' ro' br' wc' wr' m' ∧ ∀ j, 120 ≤ j → j ≠ 126 → m' j = m j := by
  obtain ⟨⟨ht, k126⟩, ⟨hk2, k128⟩, k129, ⟨hk4, k130⟩, ⟨hk5, k131⟩, ⟨hk6, k132⟩, ⟨hk7, k133⟩, ki⟩ := id k
  unfold zf_X_star zf_M_star
  rw [ze_X_isWithin, ze_M_in, zl_b, zl_b]
  by_cases q1 : zs_in i 0 23 = 0
  · rw [if_pos q1, if_pos q1]
    exact ⟨0, t, co, ro, br, wc, wr, m, rfl, rfl, k, fun _ _ _ => rfl⟩
  rw [if_neg q1, if_neg q1, ze_X_isPlace, ze_M_isPlace, zl_b, zl_b]
  obtain ⟨i1, i2⟩ := zs_in_ne q1
  by_cases q2 : zs_pl c r = 0
  · rw [if_pos q2, if_pos q2]
    exact ⟨0, t, co, ro, br, wc, wr, m, rfl, rfl, k, fun _ _ _ => rfl⟩
  rw [if_neg q2, if_neg q2, ze_X_isWithin, ze_M_in, zl_b, zl_b]
  obtain ⟨c1, c2, c3, c4⟩ := zs_pl_ne q2
  by_cases q3 : zs_in b 1 9 = 0
  · rw [if_pos q3, if_pos q3]
    exact ⟨0, t, co, ro, br, wc, wr, m, rfl, rfl, k, fun _ _ _ => rfl⟩
  rw [if_neg q3, if_neg q3]
  obtain ⟨b1, b2⟩ := zs_in_ne q3
  rw [zi_w_id (x := 0 + i) (by omega) (by omega), zi_w_id (x := 24 + i) (by omega) (by omega), zi_w_id (x := 48 + i) (by omega) (by omega), zi_w_id (x := 72 + i) (by omega) (by omega), zi_w_id (x := 96 + i) (by omega) (by omega), Int.zero_add]
  rw [zl_ci (by omega) (by omega), zl_ci (by omega) (by omega), zl_ci (by omega) (by omega), zl_ci (by omega) (by omega), zl_ci (by omega) (by omega), zl_ci (by omega) (by omega)]
  have fr : ∀ v j, 120 ≤ j → j ≠ 126 → zv_up (zv_up (zv_up (zv_up (zv_up (zv_up m 126 v) i c) (24 + i) r) (48 + i) b) (72 + i) 0) (96 + i) 0 j = m j := fun v j j1 j2 => by
    rw [zv_up_n (by omega), zv_up_n (by omega), zv_up_n (by omega), zv_up_n (by omega), zv_up_n (by omega), zv_up_n j2]
  have f126 : ∀ v, zv_up (zv_up (zv_up (zv_up (zv_up (zv_up m 126 v) i c) (24 + i) r) (48 + i) b) (72 + i) 0) (96 + i) 0 126 = v := fun v => by
    rw [zv_up_n (by omega), zv_up_n (by omega), zv_up_n (by omega), zv_up_n (by omega), zv_up_n (by omega), zv_up_s]
  refine ⟨1, _, _, _, _, _, _, _, rfl, rfl, ⟨⟨z24_or ht (z24_shl i1 (by omega)), by rw [f126, k126]⟩, ⟨hk2, (fr _ _ (by decide) (by decide)).trans k128⟩, (fr _ _ (by decide) (by decide)).trans k129, ⟨hk4, (fr _ _ (by decide) (by decide)).trans k130⟩, ⟨hk5, (fr _ _ (by decide) (by decide)).trans k131⟩, ⟨hk6, (fr _ _ (by decide) (by decide)).trans k132⟩, ⟨hk7, (fr _ _ (by decide) (by decide)).trans k133⟩, fun j j1 j2 => ?_⟩, fr _⟩
  obtain ⟨hj1, hj2, hj3⟩ := ki j j1 j2
  unfold zv_up
  by_cases e : j = i
  · subst e
    rw [if_pos rfl, if_pos rfl, if_pos rfl, if_pos rfl, if_pos rfl]
    rw [if_neg (show ¬ j = 96 + j by omega), if_neg (show ¬ j = 72 + j by omega), if_neg (show ¬ j = 48 + j by omega), if_neg (show ¬ j = 24 + j by omega), if_pos rfl, if_neg (show ¬ 24 + j = 96 + j by omega), if_neg (show ¬ 24 + j = 72 + j by omega), if_neg (show ¬ 24 + j = 48 + j by omega), if_pos rfl, if_neg (show ¬ 48 + j = 96 + j by omega), if_neg (show ¬ 48 + j = 72 + j by omega), if_pos rfl, if_neg (show ¬ 72 + j = 96 + j by omega), if_pos rfl, if_pos rfl]
    exact ⟨⟨by omega, by omega, by omega, by omega, by omega⟩, ⟨by omega, by omega, by omega, by omega, by omega⟩, fun _ => ⟨rfl, rfl, rfl, rfl, rfl⟩⟩
  · rw [if_neg e, if_neg e, if_neg e, if_neg e, if_neg e]
    rw [if_neg (show ¬ j = 96 + i by omega), if_neg (show ¬ j = 72 + i by omega), if_neg (show ¬ j = 48 + i by omega), if_neg (show ¬ j = 24 + i by omega), if_neg e, if_neg (show ¬ j = 126 by omega)]
    rw [if_neg (show ¬ 24 + j = 96 + i by omega), if_neg (show ¬ 24 + j = 72 + i by omega), if_neg (show ¬ 24 + j = 48 + i by omega), if_neg (show ¬ 24 + j = 24 + i by omega), if_neg (show ¬ 24 + j = i by omega), if_neg (show ¬ 24 + j = 126 by omega)]
    rw [if_neg (show ¬ 48 + j = 96 + i by omega), if_neg (show ¬ 48 + j = 72 + i by omega), if_neg (show ¬ 48 + j = 48 + i by omega), if_neg (show ¬ 48 + j = 24 + i by omega), if_neg (show ¬ 48 + j = i by omega), if_neg (show ¬ 48 + j = 126 by omega)]
    rw [if_neg (show ¬ 72 + j = 96 + i by omega), if_neg (show ¬ 72 + j = 72 + i by omega), if_neg (show ¬ 72 + j = 48 + i by omega), if_neg (show ¬ 72 + j = 24 + i by omega), if_neg (show ¬ 72 + j = i by omega), if_neg (show ¬ 72 + j = 126 by omega)]
    rw [if_neg (show ¬ 96 + j = 96 + i by omega), if_neg (show ¬ 96 + j = 72 + i by omega), if_neg (show ¬ 96 + j = 48 + i by omega), if_neg (show ¬ 96 + j = 24 + i by omega), if_neg (show ¬ 96 + j = i by omega), if_neg (show ¬ 96 + j = 126 by omega)]
    refine ⟨hj1, hj2, fun hb => hj3 ?_⟩
    rw [zb_or, zb_shl i1 (by omega), decide_eq_false (by omega), Bool.or_false] at hb
    exact hb
theorem yo_gone {i : Int} (k : yk_sky t h u cl sc sr ch co ro br wc wr m) : ∃ a t' m', zf_X_gone i t = some (a, t') ∧ zf_M_gone i m = some (a, m') ∧ yk_sky t' h u cl sc sr ch co ro br wc wr m' ∧ ∀ j, j ≠ 126 → m' j = m j := by
  obtain ⟨⟨ht, k126⟩, ⟨hk2, k128⟩, k129, ⟨hk4, k130⟩, ⟨hk5, k131⟩, ⟨hk6, k132⟩, ⟨hk7, k133⟩, ki⟩ := id k
  have tin : 0 ≤ t ∧ t ≤ 2147483647 := ⟨ht.1, by have := ht.2; omega⟩
  unfold zf_X_gone zf_M_gone
  rw [ze_Sky_hasStar tin.1 tin.2, ze_M_isTold (by rw [k126]; exact tin.1) (by rw [k126]; exact tin.2), k126, zl_b, zl_b]
  by_cases q : zs_has 24 t i = 0
  · rw [if_pos q, if_pos q]
    exact ⟨0, t, m, rfl, rfl, k, fun _ _ => rfl⟩
  · rw [if_neg q, if_neg q]
    obtain ⟨i1, i2, -⟩ := zs_has_ne q
    refine ⟨1, _, _, rfl, rfl, ⟨⟨z24_and ht, zv_up_s⟩, ⟨hk2, by rw [zv_up_n (by decide)]; exact k128⟩, by rw [zv_up_n (by decide)]; exact k129, ⟨hk4, by rw [zv_up_n (by decide)]; exact k130⟩, ⟨hk5, by rw [zv_up_n (by decide)]; exact k131⟩, ⟨hk6, by rw [zv_up_n (by decide)]; exact k132⟩, ⟨hk7, by rw [zv_up_n (by decide)]; exact k133⟩, fun j j1 j2 => ?_⟩, fun j hj => zv_up_n hj⟩
    obtain ⟨hj1, hj2, hj3⟩ := ki j j1 j2
    rw [zv_up_n (by omega), zv_up_n (by omega), zv_up_n (by omega), zv_up_n (by omega), zv_up_n (by omega)]
    refine ⟨hj1, hj2, fun hb => hj3 ?_⟩
    rw [zb_and, Bool.and_eq_true] at hb
    exact hb.1
theorem yo_walk {i c r : Int} (k : yk_sky t h u cl sc sr ch co ro br wc wr m) : ∃ a wc' wr' m', zf_X_walk i c r t wc wr = some (a, wc', wr') ∧ zf_M_walk i c r m = some (a, m') ∧ yk_sky t h u cl sc sr ch co ro br wc' wr' m' ∧ ∀ j, 120 ≤ j → m' j = m j := by
  obtain ⟨⟨ht, k126⟩, ⟨hk2, k128⟩, k129, ⟨hk4, k130⟩, ⟨hk5, k131⟩, ⟨hk6, k132⟩, ⟨hk7, k133⟩, ki⟩ := id k
  have tin : 0 ≤ t ∧ t ≤ 2147483647 := ⟨ht.1, by have := ht.2; omega⟩
  unfold zf_X_walk zf_M_walk
  rw [ze_Sky_hasStar tin.1 tin.2, ze_M_isTold (by rw [k126]; exact tin.1) (by rw [k126]; exact tin.2), k126, zl_b, zl_b]
  by_cases q : zs_has 24 t i = 0
  · rw [if_pos q, if_pos q]
    exact ⟨0, wc, wr, m, rfl, rfl, k, fun _ _ => rfl⟩
  rw [if_neg q, if_neg q, ze_X_isWithin, ze_M_in, zl_b, zl_b]
  obtain ⟨i1, i2, -⟩ := zs_has_ne q
  by_cases q2 : zs_in c (-3) 3 = 0
  · rw [if_pos q2, if_pos q2]
    exact ⟨0, wc, wr, m, rfl, rfl, k, fun _ _ => rfl⟩
  rw [if_neg q2, if_neg q2, ze_X_isWithin, ze_M_in, zl_b, zl_b]
  obtain ⟨c1, c2⟩ := zs_in_ne q2
  by_cases q3 : zs_in r (-3) 3 = 0
  · rw [if_pos q3, if_pos q3]
    exact ⟨0, wc, wr, m, rfl, rfl, k, fun _ _ => rfl⟩
  rw [if_neg q3, if_neg q3]
  obtain ⟨r1, r2⟩ := zs_in_ne q3
  rw [zi_w_id (x := 72 + i) (by omega) (by omega), zi_w_id (x := 96 + i) (by omega) (by omega), zl_ci i1 (by omega), zl_ci (by omega) (by omega), zl_ci (by omega) (by omega)]
  have fr : ∀ j, j ≠ 72 + i → j ≠ 96 + i → zv_up (zv_up m (72 + i) c) (96 + i) r j = m j := fun j j1 j2 => by rw [zv_up_n j2, zv_up_n j1]
  refine ⟨1, _, _, _, rfl, rfl, ⟨⟨ht, (fr _ (by omega) (by omega)).trans k126⟩, ⟨hk2, (fr _ (by omega) (by omega)).trans k128⟩, (fr _ (by omega) (by omega)).trans k129, ⟨hk4, (fr _ (by omega) (by omega)).trans k130⟩, ⟨hk5, (fr _ (by omega) (by omega)).trans k131⟩, ⟨hk6, (fr _ (by omega) (by omega)).trans k132⟩, ⟨hk7, (fr _ (by omega) (by omega)).trans k133⟩, fun j j1 j2 => ?_⟩, fun j hj => fr j (by omega) (by omega)⟩
  obtain ⟨hj1, hj2, hj3⟩ := ki j j1 j2
  rw [fr j (by omega) (by omega), fr (24 + j) (by omega) (by omega), fr (48 + j) (by omega) (by omega)]
  by_cases e : j = i
  · subst e
    rw [zv_up_n (show 72 + j ≠ 96 + j by omega), zv_up_s, zv_up_s, zv_up_s, zv_up_s]
    obtain ⟨a1, a2, a3, -, -⟩ := hj1
    obtain ⟨b1, b2, b3, -, -⟩ := hj2
    exact ⟨⟨a1, a2, a3, ⟨c1, c2⟩, ⟨r1, r2⟩⟩, ⟨b1, b2, b3, ⟨c1, c2⟩, ⟨r1, r2⟩⟩, fun hb => ⟨(hj3 hb).1, (hj3 hb).2.1, (hj3 hb).2.2.1, rfl, rfl⟩⟩
  · rw [fr (72 + j) (by omega) (by omega), fr (96 + j) (by omega) (by omega), zv_up_n e, zv_up_n e]
    exact ⟨hj1, hj2, hj3⟩
theorem yo_hour {n : Int} (k : yk_sky t h u cl sc sr ch co ro br wc wr m) : ∃ a h' m', zf_X_hour n h = some (a, h') ∧ zf_M_hour n m = some (a, m') ∧ yk_sky t h' u cl sc sr ch co ro br wc wr m' ∧ ∀ j, j ≠ 128 → m' j = m j := by
  unfold zf_X_hour zf_M_hour
  rw [ze_X_isWithin, ze_M_in, zl_b, zl_b]
  by_cases q : zs_in n 0 23 = 0
  · rw [if_pos q, if_pos q]
    exact ⟨0, h, m, rfl, rfl, k, fun _ _ => rfl⟩
  · rw [if_neg q, if_neg q]
    obtain ⟨n1, n2⟩ := zs_in_ne q
    refine ⟨1, n, _, rfl, rfl, yk_hour k n1 n2 zv_up_s (by rw [zv_up_n (by decide)]; exact k.2.2.1) (fun j j1 _ => zv_up_n j1), fun j hj => zv_up_n hj⟩
theorem yo_clouds {n : Int} (k : yk_sky t h u cl sc sr ch co ro br wc wr m) : ∃ a c' m', zf_X_clouds n cl = some (a, c') ∧ zf_M_clouds n m = some (a, m') ∧ yk_sky t h u c' sc sr ch co ro br wc wr m' ∧ ∀ j, j ≠ 130 → m' j = m j := by
  unfold zf_X_clouds zf_M_clouds
  rw [ze_X_isWithin, ze_M_in, zl_b, zl_b]
  by_cases q : zs_in n 0 16777215 = 0
  · rw [if_pos q, if_pos q]
    exact ⟨0, cl, m, rfl, rfl, k, fun _ _ => rfl⟩
  · rw [if_neg q, if_neg q]
    obtain ⟨n1, n2⟩ := zs_in_ne q
    have k7 := k.2.2.2.2.2.2.1
    exact ⟨1, n, _, rfl, rfl, yk_cl2 k ⟨n1, n2⟩ k7.1.1 k7.1.2 zv_up_s (by rw [zv_up_n (by decide)]; exact k7.2) (fun j j1 _ => zv_up_n j1), fun j hj => zv_up_n hj⟩
theorem yo_seed {n : Int} (k : yk_sky t h u cl sc sr ch co ro br wc wr m) : ∃ a c' m', zf_X_seed n ch = some (a, c') ∧ zf_M_seed n m = some (a, m') ∧ yk_sky t h u cl sc sr c' co ro br wc wr m' ∧ ∀ j, j ≠ 133 → m' j = m j := by
  unfold zf_X_seed zf_M_seed
  rw [ze_X_isWithin, ze_M_in, zl_b, zl_b]
  by_cases q : zs_in n 0 65535 = 0
  · rw [if_pos q, if_pos q]
    exact ⟨0, ch, m, rfl, rfl, k, fun _ _ => rfl⟩
  · rw [if_neg q, if_neg q]
    obtain ⟨n1, n2⟩ := zs_in_ne q
    have k4 := k.2.2.2.1
    exact ⟨1, n, _, rfl, rfl, yk_cl2 k k4.1 n1 n2 (by rw [zv_up_n (by decide)]; exact k4.2) zv_up_s (fun j _ j1 => zv_up_n j1), fun j hj => zv_up_n hj⟩
theorem yo_sight {n n2 : Int} (k : yk_sky t h u cl sc sr ch co ro br wc wr m) : ∃ a v w m', zf_X_sight n n2 sc sr = some (a, v, w) ∧ zf_M_sight n n2 m = some (a, m') ∧ yk_sky t h u cl v w ch co ro br wc wr m' ∧ ∀ j, j ≠ 131 → j ≠ 132 → m' j = m j := by
  unfold zf_X_sight zf_M_sight
  rw [ze_X_isWithin, ze_M_in, zl_b, zl_b]
  by_cases q : zs_in n 0 11 = 0
  · rw [if_pos q, if_pos q]
    exact ⟨0, sc, sr, m, rfl, rfl, k, fun _ _ _ => rfl⟩
  rw [if_neg q, if_neg q, ze_X_isWithin, ze_M_in, zl_b, zl_b]
  by_cases q2 : zs_in n2 0 11 = 0
  · rw [if_pos q2, if_pos q2]
    exact ⟨0, sc, sr, m, rfl, rfl, k, fun _ _ _ => rfl⟩
  rw [if_neg q2, if_neg q2]
  obtain ⟨a1, a2⟩ := zs_in_ne q
  obtain ⟨b1, b2⟩ := zs_in_ne q2
  obtain ⟨⟨ht, k126⟩, ⟨hk2, k128⟩, k129, ⟨hk4, k130⟩, ⟨hk5, k131⟩, ⟨hk6, k132⟩, ⟨hk7, k133⟩, ki⟩ := id k
  have fr : ∀ j, j ≠ 131 → j ≠ 132 → zv_up (zv_up m 131 n) 132 n2 j = m j := fun j j1 j2 => by rw [zv_up_n j2, zv_up_n j1]
  refine ⟨1, n, n2, _, rfl, rfl, ⟨⟨ht, (fr _ (by decide) (by decide)).trans k126⟩, ⟨hk2, (fr _ (by decide) (by decide)).trans k128⟩, (fr _ (by decide) (by decide)).trans k129, ⟨hk4, (fr _ (by decide) (by decide)).trans k130⟩, ⟨⟨a1, a2⟩, rfl⟩, ⟨⟨b1, b2⟩, rfl⟩, ⟨hk7, (fr _ (by decide) (by decide)).trans k133⟩, fun j j1 j2 => ?_⟩, fr⟩
  rw [fr j (by omega) (by omega), fr (24 + j) (by omega) (by omega), fr (48 + j) (by omega) (by omega), fr (72 + j) (by omega) (by omega), fr (96 + j) (by omega) (by omega)]
  exact ki j j1 j2
theorem yo_starIs {i w : Int} (k : yk_sky t h u cl sc sr ch co ro br wc wr m) : ∃ a, zf_X_starIs i w t h co ro br wc wr = some a ∧ zf_M_starIs i w m = some a := by
  obtain ⟨⟨ht, k126⟩, ⟨⟨h1, h2⟩, k128⟩, k129, -, -, -, -, ki⟩ := k
  have tin : 0 ≤ t ∧ t ≤ 2147483647 := ⟨ht.1, by have := ht.2; omega⟩
  unfold zf_X_starIs zf_M_starIs
  rw [ze_Sky_hasStar tin.1 tin.2, ze_M_isTold (by rw [k126]; exact tin.1) (by rw [k126]; exact tin.2), k126, zl_b, zl_b]
  by_cases q : zs_has 24 t i = 0
  · rw [if_pos q, if_pos q]; exact ⟨-1, rfl, rfl⟩
  rw [if_neg q, if_neg q]
  obtain ⟨i1, i2, hb⟩ := zs_has_ne q
  rw [zb_tb2 tin.1 tin.2] at hb
  obtain ⟨⟨⟨c1, c2⟩, -⟩, -, e⟩ := ki i i1 i2
  obtain ⟨a1, a2, a3, a4, a5⟩ := e hb
  rw [zi_w_id (x := 0 + i) (by omega) (by omega), zi_w_id (x := 24 + i) (by omega) (by omega), zi_w_id (x := 48 + i) (by omega) (by omega), zi_w_id (x := 72 + i) (by omega) (by omega), zi_w_id (x := 96 + i) (by omega) (by omega), show 0 + i = i by omega, a1, a2, a3, a4, a5]
  rw [ze_Sky_standing i1 i2 c1 c2 h1 h2, ze_M_standsAt i1 i2 (by omega) (by omega) (by omega) (by omega), a1, k128]
  rw [show zi_ix i 24 = true from zi_ix_of i1 (by omega), show zi_ix i 422 = true from zi_ix_of i1 (by omega), show zi_ix (24 + i) 422 = true from zi_ix_of (by omega) (by omega), show zi_ix (48 + i) 422 = true from zi_ix_of (by omega) (by omega), show zi_ix (72 + i) 422 = true from zi_ix_of (by omega) (by omega), show zi_ix (96 + i) 422 = true from zi_ix_of (by omega) (by omega)]
  repeat' split
  all_goals exact ⟨_, rfl, rfl⟩
theorem yo_hours_l {N : Int} (hN : N ≤ 240) : ∀ (d : Nat) (j h u : Int) (co ro m : Int → Int) (n n2 : Nat), N - j ≤ d → 0 ≤ j → d < n → d < n2 → yk_sky t h u cl sc sr ch co ro br wc wr m →
    ∃ h' u' co' ro' m', zf_X_hours_l0 N wc wr n j h u co ro = some (h', u', co', ro') ∧ zf_M_hours_l0 N n2 j m = some m' ∧ yk_sky t h' u' cl sc sr ch co' ro' br wc wr m' ∧ ∀ x, 48 ≤ x → x ≠ 128 → x ≠ 129 → m' x = m x := by
  intro d
  induction d with
  | zero =>
    intro j h u co ro m n n2 hd j0 hn hn2 k
    obtain ⟨n, rfl⟩ : ∃ q, n = q + 1 := ⟨n - 1, by omega⟩
    obtain ⟨n2, rfl⟩ : ∃ q, n2 = q + 1 := ⟨n2 - 1, by omega⟩
    refine ⟨h, u, co, ro, m, ?_, ?_, k, fun _ _ _ _ => rfl⟩
    · show zf_X_hours_l0_b N wc wr (zf_X_hours_l0 N wc wr n) j h u co ro = _
      unfold zf_X_hours_l0_b
      rw [if_neg (by omega)]
    · show zf_M_hours_l0_b N (zf_M_hours_l0 N n2) j m = _
      unfold zf_M_hours_l0_b
      rw [if_neg (by omega)]
  | succ d ih =>
    intro j h u co ro m n n2 hd j0 hn hn2 k
    obtain ⟨n, rfl⟩ : ∃ q, n = q + 1 := ⟨n - 1, by omega⟩
    obtain ⟨n2, rfl⟩ : ∃ q, n2 = q + 1 := ⟨n2 - 1, by omega⟩
    show ∃ h' u' co' ro' m', zf_X_hours_l0_b N wc wr (zf_X_hours_l0 N wc wr n) j h u co ro = _ ∧ zf_M_hours_l0_b N (zf_M_hours_l0 N n2) j m = _ ∧ _
    unfold zf_X_hours_l0_b zf_M_hours_l0_b
    by_cases hj : j < N
    · obtain ⟨h1, u1, co1, ro1, m1, e1, e2, e3, e4⟩ := yk_pass k
      rw [if_pos hj, if_pos hj, e1, zl_b, e2, zl_b, zi_w_id (x := j + 1) (by omega) (by omega)]
      obtain ⟨h', u', co', ro', m', x1, x2, x3, x4⟩ := ih (j + 1) h1 u1 co1 ro1 m1 n n2 (by omega) (by omega) (by omega) (by omega) e3
      exact ⟨h', u', co', ro', m', x1, x2, x3, fun x a b c => (x4 x a b c).trans (e4 x a b c)⟩
    · rw [if_neg hj, if_neg hj]
      exact ⟨_, _, _, _, _, rfl, rfl, k, fun _ _ _ _ => rfl⟩
theorem yo_hours {N : Int} (k : yk_sky t h u cl sc sr ch co ro br wc wr m) : ∃ a h' u' co' ro' m', zf_X_hours N h u co wc ro wr = some (a, h', u', co', ro') ∧ zf_M_hours N m = some (a, m') ∧ yk_sky t h' u' cl sc sr ch co' ro' br wc wr m' ∧ ∀ x, 48 ≤ x → x ≠ 128 → x ≠ 129 → m' x = m x := by
  unfold zf_X_hours zf_M_hours
  rw [ze_X_isWithin, ze_M_in, zl_b, zl_b]
  by_cases q : zs_in N 1 240 = 0
  · rw [if_pos q, if_pos q]
    exact ⟨-1, h, u, co, ro, m, rfl, rfl, k, fun _ _ _ _ => rfl⟩
  · obtain ⟨n1, n2⟩ := zs_in_ne q
    obtain ⟨h', u', co', ro', m', e1, e2, e3, e4⟩ := yo_hours_l n2 240 0 h u co ro m zi_fu zi_fu (by omega) (by decide) (by decide) (by decide) k
    rw [if_neg q, if_neg q, e1, zl_b, e2, zl_b]
    exact ⟨u', h', u', co', ro', m', rfl, by rw [e3.2.2.1], e3, e4⟩
end YOP
end
section
/-! ship, land, seen, line, over, steered: alike on both sides. -/
section YOQ
variable {L : zLW} {K V kd fr hf to C mk mf mh mt : Int → Int} {nc tS tL sP lP mc : Int} {t h u cl sc sr ch ts : Int} {co ro br wc wr m gp gl : Int → Int}
theorem yo_ship {s x y : Int} (z : yk_sea ts gp gl m) : ∃ a t' gp' m', zf_X_ship s x y ts gl gp = some (a, t', gp') ∧ zf_M_ship s x y m = some (a, m') ∧ yk_sea t' gp' gl m' ∧ ∀ j, (j < 120 ∨ j = 126 ∨ 128 ≤ j) → m' j = m j := by
  obtain ⟨hz, hb⟩ := id z
  obtain ⟨t1, t2, e, hs, hr, hl⟩ := id hz
  unfold zf_X_ship zf_M_ship
  rw [ze_X_isWithin, ze_M_in, zl_b, zl_b]
  by_cases hi : zs_in s 0 5 = 0
  · rw [if_pos hi, if_pos hi]
    exact ⟨0, ts, gp, m, rfl, rfl, z, fun _ _ => rfl⟩
  rw [if_neg hi, if_neg hi]
  obtain ⟨s1, s2⟩ := zs_in_ne hi
  rw [ze_X_isPlace, ze_M_isPlace, zl_b, zl_b]
  by_cases hp : zs_pl x y = 0
  · rw [if_pos hp, if_pos hp]
    exact ⟨0, ts, gp, m, rfl, rfl, z, fun _ _ => rfl⟩
  rw [if_neg hp, if_neg hp]
  obtain ⟨x1, x2, y1, y2⟩ := zs_pl_ne hp
  rw [ze_X_placeOf x1 x2 y1 y2, zl_b, zl_b, zi_w_id (x := 24 * y) (by omega) (by omega), zi_w_id (x := 24 * y + x) (by omega) (by omega), zl_is hz (by omega) (by omega), ze_Sea_isLand (by omega) (by omega) hr, zl_b, zl_b]
  by_cases c : zi_tb (gl ((24 * y + x) / 24)) ((24 * y + x) % 24) = true
  · rw [if_pos c, if_neg (by decide), if_neg (by decide)]
    exact ⟨0, ts, gp, m, rfl, rfl, z, fun _ _ => rfl⟩
  rw [if_neg c, if_pos rfl, if_pos rfl, zi_w_id (x := 120 + s) (by omega) (by omega), zl_c (zi_ix_of (by omega) (by omega)), zl_c (zi_ix_of (by omega) (by omega))]
  obtain ⟨o1, o2⟩ := zl_or_in t1 t2 s1 (by omega : s < 6)
  refine ⟨1, _, _, _, rfl, rfl, ⟨⟨o1, o2, ?_, ?_, hr, ?_⟩, ?_⟩, ?_⟩
  · rw [zv_up_n (by omega), zv_up_s, e]
  · intro k k1 k2
    by_cases ek : k = s
    · subst ek; rw [zv_up_s, zv_up_s]
    · rw [zv_up_n (by omega), zv_up_n (by omega), zv_up_n ek]; exact hs k k1 k2
  · intro x' y' a1 a2 b1 b2
    rw [zv_up_n (by omega), zv_up_n (by omega)]; exact hl x' y' a1 a2 b1 b2
  · intro k k1 k2
    by_cases ek : k = s
    · subst ek; rw [zv_up_s]; omega
    · rw [zv_up_n ek]; exact hb k k1 k2
  · intro j hj
    rw [zv_up_n (by omega), zv_up_n (by omega)]
theorem yo_land {x y b : Int} (z : yk_sea ts gp gl m) : ∃ a gl' m', zf_X_land x y b ts gp gl = some (a, gl') ∧ zf_M_land x y b m = some (a, m') ∧ yk_sea ts gp gl' m' ∧ ∀ j, j < 134 → m' j = m j := by
  obtain ⟨a, gl', m', e1, e2, e3, e4⟩ := zl_land (x := x) (y := y) (b := b) z.1
  exact ⟨a, gl', m', e1, e2, ⟨e3, z.2⟩, e4⟩
theorem yo_seen (R : yl_R L K V nc tS tL sP lP kd fr hf to mc C mk mf mh mt) (k : yk_sky t h u cl sc sr ch co ro br wc wr m) {x y f3 f4 f5 f8 f14 f16 : Int} {g0 g1 g9 g2 g6 : Int → Int} :
    ∃ a f3' f4' f5' f8' f14' f16' g0' g1' g9' g2' g6', zf_X_seen x y f3 f4 f5 h u f8 t sc sr cl tS f14 nc f16 sP g0 g1 co ro br kd hf to K g9 V = some (a, f3', f4', f5', f8', f14', f16', g0', g1', g9') ∧ zf_M_seen x y mc m mk g2 mh mt C g6 = some (a, g2', g6') := by
  unfold zf_X_seen zf_M_seen
  rw [ze_X_isPlace, ze_M_isPlace, zl_b, zl_b]
  by_cases q : zs_pl x y = 0
  · rw [if_pos q, if_pos q]
    exact ⟨-1, f3, f4, f5, f8, f14, f16, g0, g1, g9, g2, g6, rfl, rfl⟩
  rw [if_neg q, if_neg q]
  obtain ⟨x1, x2, y1, y2⟩ := zs_pl_ne q
  obtain ⟨g0', e0, -⟩ := ze_open (f := f3) (g := g0)
  rw [e0, zl_b]
  dsimp only
  obtain ⟨s', as', ho', a', g', S', e1, i1, -⟩ := yx_look (f2 := f4) (f3 := f5) (f6 := f8) (f := f16) (g := g1) (S := g9) R k x1 (by omega) y1 (by omega) (yv_ca0 (ho := f14))
  obtain ⟨s2, g2', g6', e2, i2⟩ := ym_seenFrom (g := g2) (S := g6) R k x1 (by omega) y1 (by omega)
  rw [e1, zl_b, zi_w_id (x := 24 * y) (by omega) (by omega), zi_w_id (x := 24 * y + x) (by omega) (by omega), e2, zl_b]
  have es := yv_is_eq i1 i2
  subst es
  exact ⟨_, _, _, _, _, _, _, _, _, _, _, _, rfl, rfl⟩
theorem yv_cp0 {pa ph : Int → Int} (h0 : ∀ i, 0 ≤ i → i < 24 → pa i = 0) : yv_cp L lP h u co ro br pa ph := fun a b ha hb hq => by
  rw [h0 a (by omega) (by omega), zb_0] at hq
  cases hq
theorem yx_lad (R : yl_R L K V nc tS tL sP lP kd fr hf to mc C mk mf mh mt) (k : yk_sky t h u cl sc sr ch co ro br wc wr m) {x y f3 f4 f5 f8 f14 f16 : Int} {g0 g1 g9 g11 g12 : Int → Int} (x1 : 0 ≤ x) (x2 : x ≤ 23) (y1 : 0 ≤ y) (y2 : y ≤ 11) :
    ∃ f3' s' f14' f16' g0' g1' g9' J g12', zf_X_lookAndDraw x y f3 f4 f5 h u f8 t sc sr cl tS f14 nc f16 sP tL lP g0 g1 co ro br kd hf to K g9 V g11 g12 = some (f3', x, y, s', f14', f16', g0', g1', g9', J, g12') ∧ yv_is L tS t h u cl sc sr co ro br x y s' ∧ yv_il s' (yv_D L h u co ro br x y) J := by
  unfold zf_X_lookAndDraw
  obtain ⟨g0', e0, h0⟩ := ze_open (f := f3) (g := g0)
  rw [e0, zl_b]
  dsimp only
  obtain ⟨s', as', ho', a', g', S', e1, i1, -⟩ := yx_look (f2 := f4) (f3 := f5) (f6 := f8) (f := f16) (g := g1) (S := g9) R k x1 x2 y1 y2 (yv_ca0 (ho := f14))
  rw [e1, zl_b]
  dsimp only
  obtain ⟨f', J', g2, pa', ph', S2, e2, i2, -⟩ := yx_draw (s := s') (f := a') (J := g11) (g := g') (ph := g12) (S := S') (x := x) (y := y) R k (yv_cp0 h0)
  rw [e2, zl_b]
  exact ⟨_, _, _, _, _, _, _, _, _, rfl, i1, i2⟩
theorem yo_line (R : yl_R L K V nc tS tL sP lP kd fr hf to mc C mk mf mh mt) (k : yk_sky t h u cl sc sr ch co ro br wc wr m) {x y a b f4 f5 f6 f9 f14 f16 f1 : Int} {g0 g1 g9 g11 g12 g2 g6 g7 : Int → Int} :
    ∃ r f4' f5' f6' f9' f14' f16' g0' g1' g9' g11' g12' f1' g2' g6' g7', zf_X_line x y a b t f4 f5 f6 h u f9 sc sr cl tS f14 nc f16 sP tL lP g0 g1 co ro br kd hf to K g9 V g11 g12 = some (r, f4', f5', f6', f9', f14', f16', g0', g1', g9', g11', g12') ∧ zf_M_line x y a b mc f1 m mk g2 mh mt C g6 g7 = some (r, f1', g2', g6', g7') := by
  obtain ⟨⟨ht, k126⟩, -⟩ := id k
  have tin : 0 ≤ t ∧ t ≤ 2147483647 := ⟨ht.1, by have := ht.2; omega⟩
  unfold zf_X_line zf_M_line
  rw [ze_X_isPlace, ze_M_isPlace, zl_b, zl_b]
  by_cases q : zs_pl x y = 0
  · rw [if_pos q, if_pos q]
    exact ⟨-1, f4, f5, f6, f9, f14, f16, g0, g1, g9, g11, g12, f1, g2, g6, g7, rfl, rfl⟩
  rw [if_neg q, if_neg q, ze_Sky_hasStar tin.1 tin.2, ze_M_isTold (by rw [k126]; exact tin.1) (by rw [k126]; exact tin.2), k126, zl_b, zl_b]
  obtain ⟨x1, x2, y1, y2⟩ := zs_pl_ne q
  by_cases qa : zs_has 24 t a = 0
  · rw [if_pos qa, if_pos qa]
    exact ⟨-1, f4, f5, f6, f9, f14, f16, g0, g1, g9, g11, g12, f1, g2, g6, g7, rfl, rfl⟩
  rw [if_neg qa, if_neg qa, ze_Sky_hasStar tin.1 tin.2, ze_M_isTold (by rw [k126]; exact tin.1) (by rw [k126]; exact tin.2), k126, zl_b, zl_b]
  by_cases qb : zs_has 24 t b = 0
  · rw [if_pos qb, if_pos qb]
    exact ⟨-1, f4, f5, f6, f9, f14, f16, g0, g1, g9, g11, g12, f1, g2, g6, g7, rfl, rfl⟩
  rw [if_neg qb, if_neg qb]
  by_cases qe : a = b
  · rw [if_pos qe, if_pos qe]
    exact ⟨-1, f4, f5, f6, f9, f14, f16, g0, g1, g9, g11, g12, f1, g2, g6, g7, rfl, rfl⟩
  rw [if_neg qe, if_neg qe]
  obtain ⟨a1, a2, -⟩ := zs_has_ne qa
  obtain ⟨b1, b2, -⟩ := zs_has_ne qb
  obtain ⟨f3', s', f14', f16', g0', g1', g9', J, g12', e1, i1, l1⟩ := yx_lad (f3 := f4) (f4 := f5) (f5 := f6) (f8 := f9) (f14 := f14) (f16 := f16) (g0 := g0) (g1 := g1) (g9 := g9) (g11 := g11) (g12 := g12) R k x1 (by omega : x ≤ 23) y1 (by omega : y ≤ 11)
  obtain ⟨s2, g2', g6', J2, e2, i2, l2⟩ := ym_looks (f1 := f1) (g := g2) (S := g6) (J := g7) R k x1 (by omega) y1 (by omega)
  rw [e1, zl_b, zi_w_id (x := 24 * y) (by omega) (by omega), zi_w_id (x := 24 * y + x) (by omega) (by omega), e2, zl_b, zl_c (zi_ix_of a1 a2), zl_c (zi_ix_of a1 a2)]
  have es := yv_is_eq i1 i2
  subst es
  have ej : J a = J2 a := yv_il_eq l1 l2 a a1 a2
  dsimp only
  rw [← ej]
  have hz : z24 (J a) := by
    have := (l1 a.toNat (by omega)).1
    rwa [Int.toNat_of_nonneg a1] at this
  have ⟨c1, c2⟩ := zs_b01 (t := J a) (i := b) hz.1 (by have := hz.2; omega) b1 (by omega)
  have hm : zf_M_has (J a) b = some (if zi_tb (J a) b = true then 1 else 0) := by
    rw [ze_M_has hz.1 (by have := hz.2; omega) b1 (by omega)]
  rw [hm, zl_b]
  by_cases d : zi_tb (J a) b = true
  · rw [if_pos d, if_neg (by decide), c1 d]
    exact ⟨_, _, _, _, _, _, _, _, _, _, _, _, _, _, _, _, rfl, rfl⟩
  · rw [if_neg d, if_pos rfl, c2 d]
    exact ⟨_, _, _, _, _, _, _, _, _, _, _, _, _, _, _, _, rfl, rfl⟩
theorem yo_steered (R : yl_R L K V nc tS tL sP lP kd fr hf to mc C mk mf mh mt) (k : yk_sky t h u cl sc sr ch co ro br wc wr m) (z : yk_sea ts gp gl m) {s i N dr f5 f6 f7 f8 f9 f14 f16 : Int} {g1 g2 g10 S2 mS : Int → Int} :
    ∃ r f5' f6' f7' h' u' cl' f14' f16' ch' gp' g1' g2' co' ro' g10' m' S2' mS', zf_X_steered s i N dr ts t f5 f6 f7 h u sc sr cl tS f14 nc f16 sP ch gp g1 g2 co ro br kd hf to K g10 V gl wc wr fr = some (r, f5', f6', f7', h', u', cl', f14', f16', ch', gp', g1', g2', co', ro', g10') ∧
      zf_M_steered s i N dr mc m mk S2 mh mt C mS mf = some (r, m', S2', mS') ∧ yk_sky t h' u' cl' sc sr ch' co' ro' br wc wr m' ∧ yk_sea ts gp' gl m' := by
  obtain ⟨⟨ht, k126⟩, -⟩ := id k
  obtain ⟨⟨t1, t2, e127, -⟩, hb⟩ := id z
  have tin : 0 ≤ t ∧ t ≤ 2147483647 := ⟨ht.1, by have := ht.2; omega⟩
  unfold zf_X_steered zf_M_steered
  rw [ze_Sea_hasShip t1 (by omega), ze_M_isShip (by omega) (by omega), e127, zl_b, zl_b]
  by_cases q1 : zs_has 6 ts s = 0
  · rw [if_pos q1, if_pos q1]
    exact ⟨-1, f5, f6, f7, h, u, cl, f14, f16, ch, gp, g1, g2, co, ro, g10, m, S2, mS, rfl, rfl, k, z⟩
  rw [if_neg q1, if_neg q1, ze_Sky_hasStar tin.1 tin.2, ze_M_isTold (by rw [k126]; exact tin.1) (by rw [k126]; exact tin.2), k126, zl_b, zl_b]
  obtain ⟨s1, s2, -⟩ := zs_has_ne q1
  by_cases q2 : zs_has 24 t i = 0
  · rw [if_pos q2, if_pos q2]
    exact ⟨-1, f5, f6, f7, h, u, cl, f14, f16, ch, gp, g1, g2, co, ro, g10, m, S2, mS, rfl, rfl, k, z⟩
  rw [if_neg q2, if_neg q2, ze_X_isWithin, ze_M_in, zl_b, zl_b]
  obtain ⟨i1, i2, -⟩ := zs_has_ne q2
  by_cases q3 : zs_in N 1 48 = 0
  · rw [if_pos q3, if_pos q3]
    exact ⟨-1, f5, f6, f7, h, u, cl, f14, f16, ch, gp, g1, g2, co, ro, g10, m, S2, mS, rfl, rfl, k, z⟩
  rw [if_neg q3, if_neg q3, zl_c (zi_ix_of s1 s2)]
  obtain ⟨N1, N2⟩ := zs_in_ne q3
  have hti : zb t i.toNat = true := by
    by_cases hh : zb t i.toNat = true
    · exact hh
    · exact absurd (zs_has0 tin.1 tin.2 hh) q2
  obtain ⟨p', as', vx', vy', h', u', cl', ho', f', ch', pa', g', co', ro', S', m', g2', S2', e1, e2, k2, z2, -⟩ := yk_steered_l R (dr := dr) (N := N) N2 s1 s2 i1 i2 hti 48 0 (gp s) f5 f6 f7 h u cl f14 f16 ch g1 g2 co ro g10 m S2 mS gp zi_fu zi_fu (by omega) (by decide) (by decide) (by decide) k z rfl
  rw [e1, zl_b, e2, zl_b, zi_w_id (x := 120 + s) (by omega) (by omega), zl_c (zi_ix_of (by omega) (by omega))]
  have ep : m' (120 + s) = p' := by
    rw [z2.1.2.2.2.1 s s1 s2, zv_up_s]
  dsimp only
  rw [ep]
  exact ⟨_, _, _, _, _, _, _, _, _, _, _, _, _, _, _, _, _, _, _, rfl, rfl, k2, z2⟩
theorem yo_over_l (k : yk_sky t h u cl sc sr ch co ro br wc wr m) {x y : Int} (x1 : 0 ≤ x) (x2 : x ≤ 23) : ∀ (d : Nat) (i s : Int) (n n2 : Nat), i + d = 24 → 0 ≤ i → d < n → d < n2 → ∃ a, zf_X_over_l0 x y t ro co n s i = some a ∧ zf_M_over_l0 x y m n2 s i = some a := by
  obtain ⟨⟨ht, k126⟩, -, -, -, -, -, -, ki⟩ := id k
  have tin : 0 ≤ t ∧ t ≤ 2147483647 := ⟨ht.1, by have := ht.2; omega⟩
  intro d
  induction d with
  | zero =>
    intro i s n n2 e i1 hn hn2
    obtain ⟨n, rfl⟩ : ∃ q, n = q + 1 := ⟨n - 1, by omega⟩
    obtain ⟨n2, rfl⟩ : ∃ q, n2 = q + 1 := ⟨n2 - 1, by omega⟩
    refine ⟨s, ?_, ?_⟩
    · show zf_X_over_l0_b x y t ro co (zf_X_over_l0 x y t ro co n) s i = _
      unfold zf_X_over_l0_b
      rw [if_neg (by omega)]
    · show zf_M_over_l0_b x y m (zf_M_over_l0 x y m n2) s i = _
      unfold zf_M_over_l0_b
      rw [if_neg (by omega)]
  | succ d ih =>
    intro i s n n2 e i1 hn hn2
    obtain ⟨n, rfl⟩ : ∃ q, n = q + 1 := ⟨n - 1, by omega⟩
    obtain ⟨n2, rfl⟩ : ∃ q, n2 = q + 1 := ⟨n2 - 1, by omega⟩
    show ∃ a, zf_X_over_l0_b x y t ro co (zf_X_over_l0 x y t ro co n) s i = some a ∧ zf_M_over_l0_b x y m (zf_M_over_l0 x y m n2) s i = some a
    have nx : ∀ s2 : Int, ∃ a, zf_X_over_l0 x y t ro co n s2 (zi_w (i + 1)) = some a ∧ zf_M_over_l0 x y m n2 s2 (zi_w (i + 1)) = some a := fun s2 => by
      rw [zi_w_id (x := i + 1) (by omega) (by omega)]
      exact ih (i + 1) s2 n n2 (by omega) (by omega) (by omega) (by omega)
    unfold zf_X_over_l0_b zf_M_over_l0_b
    rw [if_pos (show i < 24 by omega), if_pos (show i < 24 by omega), ze_Sky_hasStar tin.1 tin.2, ze_M_isTold (by rw [k126]; exact tin.1) (by rw [k126]; exact tin.2), k126, zl_b, zl_b]
    by_cases q : zs_has 24 t i = 0
    · rw [if_pos q, if_pos q]
      exact nx s
    rw [if_neg q, if_neg q, zl_ci i1 (by omega), zi_w_id (x := 24 + i) (by omega) (by omega), zi_w_id (x := 0 + i) (by omega) (by omega), zl_ci (by omega) (by omega), Int.zero_add, zl_ci (by omega) (by omega)]
    have hti : zb t i.toNat = true := by
      by_cases hh : zb t i.toNat = true
      · exact hh
      · exact absurd (zs_has0 tin.1 tin.2 hh) q
    obtain ⟨hj1, hj2, hj3⟩ := ki i i1 (by omega)
    obtain ⟨c0, c1, -⟩ := hj3 hti
    rw [c0, c1]
    obtain ⟨⟨b1, b2⟩, -⟩ := hj1
    by_cases r : ro i = y
    · rw [if_pos r, if_pos r, zi_w_id (x := x - co i) (by omega) (by omega), ze_floorMod (by omega) (by omega), zl_b, zi_w_id (x := x - co i + 24) (by omega) (by omega), zi_rem_eq (a := x - co i + 24) (by omega) (by omega) (by decide) (by decide), show (x - co i + 24) % 24 = (x - co i) % 24 by omega]
      exact nx _
    · rw [if_neg r, if_neg r]
      exact nx s
theorem yo_over (k : yk_sky t h u cl sc sr ch co ro br wc wr m) {x y : Int} : ∃ a, zf_X_over x y t ro co = some a ∧ zf_M_over x y m = some a := by
  unfold zf_X_over zf_M_over
  rw [ze_X_isPlace, ze_M_isPlace, zl_b, zl_b]
  by_cases q : zs_pl x y = 0
  · rw [if_pos q, if_pos q]
    exact ⟨-1, rfl, rfl⟩
  rw [if_neg q, if_neg q]
  obtain ⟨x1, x2, y1, y2⟩ := zs_pl_ne q
  obtain ⟨a, e1, e2⟩ := yo_over_l (y := y) k x1 (by omega : x ≤ 23) 24 0 0 zi_fu zi_fu rfl (by decide) (by decide) (by decide)
  rw [e1, e2]
  exact ⟨a, rfl, rfl⟩
end YOQ
end
section
/-! The tape: bytes of a number. -/
section YTA
theorem zi_ofev {op : Int32 → Int32 → Int32} {a b : Int} : Int32.ofInt (zi_ev op a b) = op (Int32.ofInt a) (Int32.ofInt b) := by
  unfold zi_ev; exact Int32.ofInt_toInt _
theorem zb_by {a : Int} {j : Nat} (hj : j < 8) : zb (zi_by a) j = zb a j := by
  unfold zb zi_by
  rw [Int32.ofInt_toInt]
  simp only [Int32.toBitVec_toInt8, Int8.toBitVec_toInt32, BitVec.getLsbD_signExtend, BitVec.getLsbD_setWidth]
  simp [hj, show j < 32 by omega]
theorem zb_255 {j : Nat} : zb 255 j = decide (j < 8) := by
  by_cases h : j < 32
  · have : ∀ k : Nat, k < 32 → zb 255 k = decide (k < 8) := by decide +kernel
    exact this j h
  · rw [zb_ge (by omega), decide_eq_false (by omega)]
theorem zb_shr {x i : Int} {j : Nat} (k1 : 0 ≤ i) (k2 : i < 32) (hj : j + i.toNat < 32) : zb (zi_shr x i) j = zb x (j + i.toNat) := by
  unfold zi_shr
  rw [zb_ev]
  show ((Int32.ofInt x).toBitVec.sshiftRight' ((Int32.ofInt i &&& 31).toBitVec.smod 32)).getLsbD j = _
  unfold BitVec.sshiftRight'
  rw [zi_amt k1 k2, BitVec.getLsbD_sshiftRight, if_pos (by omega)]
  rw [show decide (32 ≤ j) = false from decide_eq_false (by omega), Nat.add_comm j]
  rfl
theorem zb_ush {x i : Int} {j : Nat} (k1 : 0 ≤ i) (k2 : i < 32) : zb (zi_ush x i) j = zb x (j + i.toNat) := by
  have hd : ∀ k : Nat, k < 32 → (((Int32.ofInt (k : Int)).toUInt32 &&& Int32.toUInt32 31).toBitVec % 32).toNat = k := by decide +kernel
  have hk := hd i.toNat (by omega)
  rw [Int.toNat_of_nonneg k1] at hk
  unfold zi_ush
  rw [zb_ev]
  show ((Int32.ofInt x).toBitVec >>> (((Int32.ofInt i).toUInt32 &&& Int32.toUInt32 31).toBitVec % 32)).getLsbD j = _
  rw [BitVec.ushiftRight_eq', hk, BitVec.getLsbD_ushiftRight, Nat.add_comm j]
  rfl
theorem zb_shln {x i : Int} {j : Nat} (k1 : 0 ≤ i) (k2 : i < 32) (hj : j < 32) : zb (zi_shl x i) j = (!decide (j < i.toNat) && zb x (j - i.toNat)) := by
  unfold zi_shl
  rw [zb_ev]
  show ((Int32.ofInt x).toBitVec <<< ((Int32.ofInt i &&& 31).toBitVec.smod 32)).getLsbD j = _
  rw [BitVec.shiftLeft_eq', zi_amt k1 k2, BitVec.getLsbD_shiftLeft, decide_eq_true hj, Bool.true_and]
  rfl
theorem zi_255 {a : Int} : 0 ≤ zi_and a 255 ∧ zi_and a 255 ≤ 255 := by
  have h : z24 (zi_and a 255) := z24_and2 ⟨by decide, by decide⟩
  refine ⟨h.1, ?_⟩
  have h2 := h.2
  by_cases hh : zi_and a 255 ≤ 255
  · exact hh
  have e : zi_and a 255 = ((zi_and a 255) % 256) := by
    have m1 : 0 ≤ zi_and a 255 % 256 := by omega
    refine z24_ext h ⟨m1, by omega⟩ fun j hj => ?_
    rw [zb_tb (by omega) (by omega), zb_tb (t := zi_and a 255 % 256) m1 (by omega)]
    have e2 : (zi_and a 255 % 256).toNat = (zi_and a 255).toNat % 2 ^ 8 := by omega
    rw [e2, Nat.testBit_mod_two_pow, ← zb_tb h.1 (by omega)]
    by_cases q : j < 8
    · rw [decide_eq_true q, Bool.true_and]
    · rw [decide_eq_false q, Bool.false_and, zb_and, zb_255, decide_eq_false q, Bool.and_false]
  omega
theorem zi_byte {x k : Int} (k1 : 0 ≤ k) (k2 : k ≤ 24) : zi_and (zi_by (zi_by (zi_shr x k))) 255 = zi_and (zi_ush x k) 255 := by
  have a := zi_255 (a := zi_by (zi_by (zi_shr x k)))
  have b := zi_255 (a := zi_ush x k)
  refine zb_ext (by omega) (by omega) (by omega) (by omega) fun j hj => ?_
  rw [zb_and, zb_and, zb_255]
  by_cases q : j < 8
  · rw [zb_by q, zb_by q, zb_shr k1 (by omega) (by omega), zb_ush k1 (by omega)]
  · rw [decide_eq_false q, Bool.and_false, Bool.and_false]
theorem yt_num_l {x : Int} : ∀ (d : Nat) (i n : Int) (T M : Int → Int) (f f2 : Nat), i + 1 = d → d ≤ 4 → n + d ≤ 220 → 0 ≤ n → d < f → d < f2 → yk_T T M →
    ∃ T' M', zf_Tape_addNumber_l0 x f (8 * i) n T = some (n + d, T') ∧ zf_M_types_l0 x f2 i n M = some (n + d, M') ∧ yk_T T' M' := by
  intro d
  induction d with
  | zero =>
    intro i n T M f f2 e _ _ _ hf hf2 hT
    obtain ⟨f, rfl⟩ : ∃ q, f = q + 1 := ⟨f - 1, by omega⟩
    obtain ⟨f2, rfl⟩ : ∃ q, f2 = q + 1 := ⟨f2 - 1, by omega⟩
    refine ⟨T, M, ?_, ?_, hT⟩
    · show zf_Tape_addNumber_l0_b x (zf_Tape_addNumber_l0 x f) (8 * i) n T = _
      unfold zf_Tape_addNumber_l0_b
      rw [if_pos (by omega)]
      simp
    · show zf_M_types_l0_b x (zf_M_types_l0 x f2) i n M = _
      unfold zf_M_types_l0_b
      rw [if_pos (by omega)]
      simp
  | succ d ih =>
    intro i n T M f f2 e hd hn n0 hf hf2 hT
    obtain ⟨f, rfl⟩ : ∃ q, f = q + 1 := ⟨f - 1, by omega⟩
    obtain ⟨f2, rfl⟩ : ∃ q, f2 = q + 1 := ⟨f2 - 1, by omega⟩
    have hT2 : yk_T (zv_up T n (zi_and (zi_ush x (8 * i)) 255)) (zv_up M n (zi_by (zi_by (zi_shr x (8 * i))))) := fun j j1 j2 => by
      by_cases ej : j = n
      · subst ej
        rw [zv_up_s, zv_up_s, zi_byte (by omega) (by omega)]
        exact ⟨rfl, zi_255⟩
      · rw [zv_up_n ej, zv_up_n ej]; exact hT j j1 j2
    obtain ⟨T', M', e1, e2, h2⟩ := ih (i - 1) (n + 1) _ _ f f2 (by omega) (by omega) (by omega) (by omega) (by omega) (by omega) hT2
    refine ⟨T', M', ?_, ?_, h2⟩
    · show zf_Tape_addNumber_l0_b x (zf_Tape_addNumber_l0 x f) (8 * i) n T = _
      unfold zf_Tape_addNumber_l0_b
      rw [if_neg (by omega), if_pos (by omega), zl_ci n0 (by omega), zi_w_id (x := 8 * i + -8) (by omega) (by omega), zi_w_id (x := n + 1) (by omega) (by omega), show 8 * i + -8 = 8 * (i - 1) by omega, e1]
      congr 2
      omega
    · show zf_M_types_l0_b x (zf_M_types_l0 x f2) i n M = _
      unfold zf_M_types_l0_b
      rw [if_neg (by omega), zl_ci n0 (by omega), zi_w_id (x := 8 * i) (by omega) (by omega), zi_w_id (x := i + -1) (by omega) (by omega), zi_w_id (x := n + 1) (by omega) (by omega), show i + -1 = i - 1 by omega, e2]
      congr 2
      omega
theorem yt_num {x n : Int} {T M : Int → Int} (n0 : 0 ≤ n) (hn : n + 4 ≤ 220) (hT : yk_T T M) : ∃ T' M', zf_Tape_addNumber x n T = some (n + 4, T') ∧ zf_M_types x n M = some (n + 4, M') ∧ yk_T T' M' := by
  obtain ⟨T', M', e1, e2, h⟩ := yt_num_l (x := x) 4 3 n T M zi_fu zi_fu (by omega) (by omega) (by omega) n0 (by decide) (by decide) hT
  refine ⟨T', M', ?_, ?_, h⟩
  · unfold zf_Tape_addNumber
    rw [show zf_Tape_addNumber_l0 x zi_fu 24 n T = _ from e1, zl_b]
    rfl
  · unfold zf_M_types
    rw [show zf_M_types_l0 x zi_fu 3 n M = _ from e2, zl_b]
    rfl
/-- the tape as both sides hold it -/
def yk_tape (n n2 : Int) (T M : Int → Int) : Prop := n2 = n ∧ 0 ≤ n ∧ n ≤ 220 ∧ yk_T T M
theorem yo_feed {a b c d e n n2 : Int} {T M : Int → Int} (h : yk_tape n n2 T M) : ∃ r n' n2' T' M', zf_X_feed a b c d e n T = some (r, n', T') ∧ zf_M_feed a b c d e n2 M = some (r, n2', M') ∧ yk_tape n' n2' T' M' := by
  obtain ⟨rfl, n0, n1, hT⟩ := h
  unfold zf_X_feed zf_M_feed
  rw [zi_w_id (x := n2 + 20) (by omega) (by omega)]
  by_cases q : 200 < n2
  · rw [if_pos q, if_pos (by omega)]
    exact ⟨-1, n2, n2, T, M, rfl, rfl, rfl, n0, n1, hT⟩
  rw [if_neg q, if_neg (by omega)]
  obtain ⟨T1, M1, e1, f1, h1⟩ := yt_num (x := a) n0 (by omega) hT
  obtain ⟨T2, M2, e2, f2, h2⟩ := yt_num (x := b) (n := n2 + 4) (by omega) (by omega) h1
  obtain ⟨T3, M3, e3, f3, h3⟩ := yt_num (x := c) (n := n2 + 4 + 4) (by omega) (by omega) h2
  obtain ⟨T4, M4, e4, f4, h4⟩ := yt_num (x := d) (n := n2 + 4 + 4 + 4) (by omega) (by omega) h3
  obtain ⟨T5, M5, e5, f5, h5⟩ := yt_num (x := e) (n := n2 + 4 + 4 + 4 + 4) (by omega) (by omega) h4
  rw [e1, f1, zl_b, zl_b]
  dsimp only
  rw [e2, f2, zl_b, zl_b]
  dsimp only
  rw [e3, f3, zl_b, zl_b]
  dsimp only
  rw [e4, f4, zl_b, zl_b]
  dsimp only
  rw [e5, f5, zl_b, zl_b]
  exact ⟨_, _, _, T5, M5, rfl, rfl, rfl, by omega, by omega, h5⟩
theorem ze_byteAt {j : Int} {T : Int → Int} (j0 : 0 ≤ j) (j1 : j < 220) : zf_Tape_byteAt j T = some (T j) := by
  unfold zf_Tape_byteAt
  rw [if_neg (by omega), if_pos j1, zl_ci j0 (by omega)]
theorem zi_ev_zb {op : Int32 → Int32 → Int32} {op2 : Int32 → Int32 → Int32} {a b c d : Int} (h : ∀ j, j < 32 → zb (zi_ev op a b) j = zb (zi_ev op2 c d) j) : zi_ev op a b = zi_ev op2 c d := zb_ext zi_ev_in.1 zi_ev_in.2 zi_ev_in.1 zi_ev_in.2 h
def yt_nb (T : Int → Int) (i : Int) : Int := zi_or (zi_or (zi_or (zi_shl (T (4 * i)) 24) (zi_shl (T (4 * i + 1)) 16)) (zi_shl (T (4 * i + 2)) 8)) (T (4 * i + 3))
theorem ze_numberAt {i : Int} {T : Int → Int} (i0 : 0 ≤ i) (i1 : i < 55) : zf_Tape_numberAt i T = some (yt_nb T i) := by
  unfold zf_Tape_numberAt yt_nb
  rw [zi_w_id (x := 4 * i) (by omega) (by omega), ze_byteAt (by omega) (by omega), zl_b, zi_w_id (x := 4 * i + 1) (by omega) (by omega), ze_byteAt (by omega) (by omega), zl_b, zi_w_id (x := 4 * i + 2) (by omega) (by omega), ze_byteAt (by omega) (by omega), zl_b, zi_w_id (x := 4 * i + 3) (by omega) (by omega), ze_byteAt (by omega) (by omega), zl_b]
theorem yt_nb_eq {a b c d : Int} : zi_or (zi_shl (zi_or (zi_shl (zi_or (zi_shl (zi_or (zi_shl 0 8) a) 8) b) 8) c) 8) d = zi_or (zi_or (zi_or (zi_shl a 24) (zi_shl b 16)) (zi_shl c 8)) d := by
  unfold zi_or
  refine zi_ev_zb fun j hj => ?_
  show zb (zi_or (zi_shl (zi_or (zi_shl (zi_or (zi_shl (zi_or (zi_shl 0 8) a) 8) b) 8) c) 8) d) j = zb (zi_or (zi_or (zi_or (zi_shl a 24) (zi_shl b 16)) (zi_shl c 8)) d) j
  have s8 : ∀ (x : Int) (k : Nat), k < 32 → zb (zi_shl x 8) k = (!decide (k < 8) && zb x (k - 8)) := fun x k hk => zb_shln (by decide) (by decide) hk
  have s16 : ∀ (x : Int) (k : Nat), k < 32 → zb (zi_shl x 16) k = (!decide (k < 16) && zb x (k - 16)) := fun x k hk => zb_shln (by decide) (by decide) hk
  have s24 : ∀ (x : Int) (k : Nat), k < 32 → zb (zi_shl x 24) k = (!decide (k < 24) && zb x (k - 24)) := fun x k hk => zb_shln (by decide) (by decide) hk
  rw [zb_or, zb_or, zb_or, zb_or, s8 _ j hj, s8 c j hj, s16 b j hj, s24 a j hj, zb_or, s8 _ (j - 8) (by omega), zb_or, s8 _ (j - 8 - 8) (by omega), zb_or, s8 _ (j - 8 - 8 - 8) (by omega), zb_0, Bool.and_false, Bool.false_or]
  rw [show j - 8 - 8 - 8 = j - 24 by omega, show j - 8 - 8 = j - 16 by omega]
  by_cases q1 : j < 8
  · rw [decide_eq_true q1, decide_eq_true (show j < 16 by omega), decide_eq_true (show j < 24 by omega)]
    simp
  rw [decide_eq_false q1]
  by_cases q2 : j < 16
  · rw [decide_eq_true q2, decide_eq_true (show j < 24 by omega), decide_eq_true (show j - 8 < 8 by omega)]
    simp
  rw [decide_eq_false q2, decide_eq_false (show ¬ j - 8 < 8 by omega)]
  by_cases q3 : j < 24
  · rw [decide_eq_true q3, decide_eq_true (show j - 16 < 8 by omega)]
    simp
  rw [decide_eq_false q3, decide_eq_false (show ¬ j - 16 < 8 by omega)]
  simp [Bool.or_assoc]
theorem ze_tapeNumber {i : Int} {T M : Int → Int} (hT : yk_T T M) (i0 : 0 ≤ i) (i1 : i < 55) : zf_M_tapeNumber i M = some (yt_nb T i) := by
  have st : ∀ (n : Nat) (s j : Int), 4 * i ≤ j → j < 4 * i + 4 → zf_M_tapeNumber_l0 i M (n + 1) s j = zf_M_tapeNumber_l0 i M n (zi_or (zi_shl s 8) (T j)) (j + 1) := fun n s j j0 j1 => by
    show zf_M_tapeNumber_l0_b i M (zf_M_tapeNumber_l0 i M n) s j = _
    unfold zf_M_tapeNumber_l0_b
    rw [zi_w_id (x := 4 * i) (by omega) (by omega), zi_w_id (x := 4 * i + 4) (by omega) (by omega), if_pos (by omega), zl_ci (by omega) (by omega), (hT j (by omega) (by omega)).1, zi_w_id (x := j + 1) (by omega) (by omega)]
  obtain ⟨n, hn⟩ : ∃ n, zi_fu = n + 1 + 1 + 1 + 1 + 1 := ⟨zi_fu - 5, by decide⟩
  unfold zf_M_tapeNumber
  rw [zi_w_id (x := 4 * i) (by omega) (by omega), hn, st _ _ _ (by omega) (by omega), st _ _ _ (by omega) (by omega), st _ _ _ (by omega) (by omega), st _ _ _ (by omega) (by omega)]
  show ((zf_M_tapeNumber_l0_b i M (zf_M_tapeNumber_l0 i M n) (zi_or (zi_shl (zi_or (zi_shl (zi_or (zi_shl (zi_or (zi_shl 0 8) (T (4 * i))) 8) (T (4 * i + 1))) 8) (T (4 * i + 1 + 1))) 8) (T (4 * i + 1 + 1 + 1))) (4 * i + 1 + 1 + 1 + 1)).bind _) = _
  unfold zf_M_tapeNumber_l0_b
  rw [zi_w_id (x := 4 * i) (by omega) (by omega), zi_w_id (x := 4 * i + 4) (by omega) (by omega), if_neg (by omega), zl_b, yt_nb_eq]
  unfold yt_nb
  rw [show 4 * i + 1 + 1 = 4 * i + 2 by omega, show 4 * i + 2 + 1 = 4 * i + 3 by omega]
end YTA
end
section
/-! Copies of the whole state, keep and undo, check. -/
section YKE
variable {t h u cl sc sr ch ts : Int} {co ro br wc wr m gp gl : Int → Int}
theorem yk_sky_cg (k : yk_sky t h u cl sc sr ch co ro br wc wr m) {co2 ro2 br2 wc2 wr2 m2 : Int → Int} (e1 : ∀ j, 0 ≤ j → j < 24 → co2 j = co j) (e2 : ∀ j, 0 ≤ j → j < 24 → ro2 j = ro j) (e3 : ∀ j, 0 ≤ j → j < 24 → br2 j = br j) (e4 : ∀ j, 0 ≤ j → j < 24 → wc2 j = wc j) (e5 : ∀ j, 0 ≤ j → j < 24 → wr2 j = wr j)
    (e : ∀ j, 0 ≤ j → j < 422 → m2 j = m j) : yk_sky t h u cl sc sr ch co2 ro2 br2 wc2 wr2 m2 := by
  obtain ⟨⟨ht, k126⟩, ⟨hk2, k128⟩, k129, ⟨hk4, k130⟩, ⟨hk5, k131⟩, ⟨hk6, k132⟩, ⟨hk7, k133⟩, ki⟩ := k
  refine ⟨⟨ht, by rw [e _ (by decide) (by decide)]; exact k126⟩, ⟨hk2, by rw [e _ (by decide) (by decide)]; exact k128⟩, by rw [e _ (by decide) (by decide)]; exact k129, ⟨hk4, by rw [e _ (by decide) (by decide)]; exact k130⟩, ⟨hk5, by rw [e _ (by decide) (by decide)]; exact k131⟩, ⟨hk6, by rw [e _ (by decide) (by decide)]; exact k132⟩, ⟨hk7, by rw [e _ (by decide) (by decide)]; exact k133⟩, fun j j1 j2 => ?_⟩
  rw [e j j1 (by omega), e (24 + j) (by omega) (by omega), e (48 + j) (by omega) (by omega), e (72 + j) (by omega) (by omega), e (96 + j) (by omega) (by omega), e1 j j1 j2, e2 j j1 j2, e3 j j1 j2, e4 j j1 j2, e5 j j1 j2]
  exact ki j j1 j2
theorem yk_sea_cg (z : yk_sea ts gp gl m) {gp2 gl2 m2 : Int → Int} (e1 : ∀ j, 0 ≤ j → j < 6 → gp2 j = gp j) (e2 : ∀ j, 0 ≤ j → j < 12 → gl2 j = gl j) (e : ∀ j, 0 ≤ j → j < 422 → m2 j = m j) : yk_sea ts gp2 gl2 m2 := by
  obtain ⟨⟨t1, t2, k1, hs, hr, hl⟩, hb⟩ := z
  refine ⟨⟨t1, t2, by rw [e _ (by decide) (by decide)]; exact k1, fun s s1 s2 => by rw [e _ (by omega) (by omega), e1 s s1 s2]; exact hs s s1 s2, fun y y1 y2 => by rw [e2 y y1 y2]; exact hr y y1 y2, fun x y x1 x2 y1 y2 => by rw [e _ (by omega) (by omega), e2 y y1 y2]; exact hl x y x1 x2 y1 y2⟩, fun s s1 s2 => by rw [e1 s s1 s2]; exact hb s s1 s2⟩
theorem ze_copies_l {g0 : Int → Int} : ∀ (d : Nat) (j : Int) (g : Int → Int) (n : Nat), j + d = 422 → 0 ≤ j → d < n → ∃ g2, zf_M_copies_422_422_l0 g0 n j g = some g2 ∧ (∀ i, j ≤ i → i < 422 → g2 i = g0 i) ∧ ∀ i, i < j → g2 i = g i := by
  intro d
  induction d with
  | zero =>
    intro j g n e _ hn
    obtain ⟨n, rfl⟩ : ∃ q, n = q + 1 := ⟨n - 1, by omega⟩
    refine ⟨g, ?_, fun i _ _ => by omega, fun _ _ => rfl⟩
    show zf_M_copies_422_422_l0_b g0 (zf_M_copies_422_422_l0 g0 n) j g = _
    unfold zf_M_copies_422_422_l0_b
    rw [if_neg (by omega)]
  | succ d ih =>
    intro j g n e j0 hn
    obtain ⟨n, rfl⟩ : ∃ q, n = q + 1 := ⟨n - 1, by omega⟩
    obtain ⟨g2, e1, a, b⟩ := ih (j + 1) (zv_up g j (g0 j)) n (by omega) (by omega) (by omega)
    refine ⟨g2, ?_, fun i i1 i2 => ?_, fun i i1 => ?_⟩
    · show zf_M_copies_422_422_l0_b g0 (zf_M_copies_422_422_l0 g0 n) j g = _
      unfold zf_M_copies_422_422_l0_b
      rw [if_pos (by omega), zl_ci j0 (by omega), zi_w_id (x := j + 1) (by omega) (by omega), e1]
    · by_cases q : i = j
      · subst q
        rw [b i (by omega), zv_up_s]
      · exact a i (by omega) i2
    · rw [b i (by omega), zv_up_n (by omega)]
theorem ze_copies {g0 g : Int → Int} : ∃ g2, zf_M_copies_422_422 g0 g = some g2 ∧ ∀ i, 0 ≤ i → i < 422 → g2 i = g0 i := by
  obtain ⟨g2, e1, a, -⟩ := ze_copies_l (g0 := g0) 422 0 g zi_fu (by decide) (by decide) (by decide)
  refine ⟨g2, ?_, a⟩
  unfold zf_M_copies_422_422
  rw [e1]; rfl
theorem ze_begins {g0 g : Int → Int} : ∃ g2, zf_M_begins g0 g = some g2 ∧ ∀ i, 0 ≤ i → i < 422 → g2 i = g0 i := by
  obtain ⟨g2, e1, a⟩ := ze_copies (g0 := g0) (g := g)
  refine ⟨g2, ?_, a⟩
  unfold zf_M_begins
  rw [e1]; rfl
theorem ze_again {g0 g : Int → Int} : ∃ g2, zf_M_again g0 g = some g2 ∧ ∀ i, 0 ≤ i → i < 422 → g2 i = g0 i := by
  obtain ⟨g2, e1, a⟩ := ze_copies (g0 := g0) (g := g)
  refine ⟨g2, ?_, a⟩
  unfold zf_M_again
  rw [e1]; rfl
theorem zv_cpy_in {g0 g : Int → Int} {n j : Int} (h : j < n) : zv_cpy g0 g n j = g0 j := if_pos h
theorem yo_keep (k : yk_sky t h u cl sc sr ch co ro br wc wr m) (z : yk_sea ts gp gl m) {f1 f3 f5 f7 f9 f11 f13 f15 f16 f0 : Int} {g1 g3 g5 g7 g9 g11 g13 mK : Int → Int} :
    ∃ r co' ro' br' wc' wr' gl' gp' mK', zf_X_keep t f1 h f3 u f5 cl f7 sc f9 sr f11 ch f13 ts f15 f16 co g1 ro g3 br g5 wc g7 wr g9 gl g11 gp g13 = some (r, t, h, u, cl, sc, sr, ch, ts, 1, co', ro', br', wc', wr', gl', gp') ∧
      zf_M_keep f0 m mK = some (r, 1, mK') ∧ yk_sky t h u cl sc sr ch co' ro' br' wc' wr' mK' ∧ yk_sea ts gp' gl' mK' := by
  obtain ⟨⟨ht, k126⟩, -⟩ := id k
  obtain ⟨g2, e2, a⟩ := ze_copies (g0 := m) (g := mK)
  refine ⟨zs_sum t 24, zv_cpy co g1 24, zv_cpy ro g3 24, zv_cpy br g5 24, zv_cpy wc g7 24, zv_cpy wr g9 24, zv_cpy gl g11 12, zv_cpy gp g13 6, g2, ?_, ?_, yk_sky_cg k (fun j j1 j2 => zv_cpy_in j2) (fun j j1 j2 => zv_cpy_in j2) (fun j j1 j2 => zv_cpy_in j2) (fun j j1 j2 => zv_cpy_in j2) (fun j j1 j2 => zv_cpy_in j2) a, yk_sea_cg z (fun j j1 j2 => zv_cpy_in j2) (fun j j1 j2 => zv_cpy_in j2) a⟩
  · unfold zf_X_keep zf_Sky_copyFrom zf_Sea_copyFrom
    rw [zl_b, zl_b, ze_bitCount ht.1 (by have := ht.2; omega), zl_b]
  · unfold zf_M_keep
    rw [e2, zl_b, k126, ze_M_bits ht.1 (by have := ht.2; omega), zl_b]
theorem yo_undo {ik : Int} {mK : Int → Int} {f2 f4 f6 f8 f10 f12 f14 f16 : Int} {g1 g3 g5 g7 g9 g11 g13 : Int → Int} (hk : ik ≠ 0 → yk_sky t h u cl sc sr ch co ro br wc wr mK ∧ yk_sea ts gp gl mK) (k : yk_sky f2 f4 f6 f8 f10 f12 f14 g1 g3 g5 g7 g9 m) (z : yk_sea f16 g13 g11 m) :
    ∃ r f2' f4' f6' f8' f10' f12' f14' f16' g1' g3' g5' g7' g9' g11' g13' m', zf_X_undo ik t f2 h f4 u f6 cl f8 sc f10 sr f12 ch f14 ts f16 co g1 ro g3 br g5 wc g7 wr g9 gl g11 gp g13 = some (r, f2', f4', f6', f8', f10', f12', f14', f16', g1', g3', g5', g7', g9', g11', g13') ∧
      zf_M_undo ik mK m = some (r, m') ∧ yk_sky f2' f4' f6' f8' f10' f12' f14' g1' g3' g5' g7' g9' m' ∧ yk_sea f16' g13' g11' m' := by
  unfold zf_X_undo zf_M_undo
  by_cases q : ik = 0
  · rw [if_pos q, if_pos q]
    exact ⟨0, f2, f4, f6, f8, f10, f12, f14, f16, g1, g3, g5, g7, g9, g11, g13, m, rfl, rfl, k, z⟩
  · rw [if_neg q, if_neg q]
    obtain ⟨kk, kz⟩ := hk q
    obtain ⟨g2, e2, a⟩ := ze_copies (g0 := mK) (g := m)
    unfold zf_Sky_copyFrom zf_Sea_copyFrom
    rw [zl_b, zl_b, e2, zl_b]
    exact ⟨1, _, _, _, _, _, _, _, _, _, _, _, _, _, _, _, g2, rfl, rfl, yk_sky_cg kk (fun j j1 j2 => zv_cpy_in j2) (fun j j1 j2 => zv_cpy_in j2) (fun j j1 j2 => zv_cpy_in j2) (fun j j1 j2 => zv_cpy_in j2) (fun j j1 j2 => zv_cpy_in j2) a, yk_sea_cg kz (fun j j1 j2 => zv_cpy_in j2) (fun j j1 j2 => zv_cpy_in j2) a⟩
theorem yo_check_l {x : Int} {T M : Int → Int} (z : yk_sea ts gp gl m) (hT : yk_T T M) (x2 : x ≤ 6) : ∀ (d : Nat) (i : Int) (f f3 : Nat), x - i ≤ d → 0 ≤ i → d < f → d < f3 → (zf_X_check_l0 x 0 ts T gp f i = some (.inl ()) ∧ zf_M_check_l0 x 0 M m f3 i = some (.inl ())) ∨ ∃ r, zf_X_check_l0 x 0 ts T gp f i = some (.inr (r, 0)) ∧ zf_M_check_l0 x 0 M m f3 i = some (.inr (r, 0)) := by
  obtain ⟨⟨t1, t2, e127, hs, -⟩, hb⟩ := id z
  intro d
  induction d with
  | zero =>
    intro i f f3 e i0 hf hf3
    obtain ⟨f, rfl⟩ : ∃ q, f = q + 1 := ⟨f - 1, by omega⟩
    obtain ⟨f3, rfl⟩ : ∃ q, f3 = q + 1 := ⟨f3 - 1, by omega⟩
    refine .inl ⟨?_, ?_⟩
    · show zf_X_check_l0_b x 0 ts T gp (zf_X_check_l0 x 0 ts T gp f) i = _
      unfold zf_X_check_l0_b
      rw [if_neg (by omega)]
    · show zf_M_check_l0_b x 0 M m (zf_M_check_l0 x 0 M m f3) i = _
      unfold zf_M_check_l0_b
      rw [if_neg (by omega)]
  | succ d ih =>
    intro i f f3 e i0 hf hf3
    obtain ⟨f, rfl⟩ : ∃ q, f = q + 1 := ⟨f - 1, by omega⟩
    obtain ⟨f3, rfl⟩ : ∃ q, f3 = q + 1 := ⟨f3 - 1, by omega⟩
    show (zf_X_check_l0_b x 0 ts T gp (zf_X_check_l0 x 0 ts T gp f) i = _ ∧ zf_M_check_l0_b x 0 M m (zf_M_check_l0 x 0 M m f3) i = _) ∨ ∃ r, zf_X_check_l0_b x 0 ts T gp (zf_X_check_l0 x 0 ts T gp f) i = _ ∧ zf_M_check_l0_b x 0 M m (zf_M_check_l0 x 0 M m f3) i = _
    unfold zf_X_check_l0_b zf_M_check_l0_b
    by_cases q : i < x
    · have nx := ih (i + 1) f f3 (by omega) (by omega) (by omega) (by omega)
      rw [if_pos q, if_pos q, ze_Sea_hasShip t1 (by omega), zl_b, ze_tapeNumber hT i0 (by omega), zl_b, ze_M_isShip (by omega) (by omega), e127, zl_b, ze_numberAt i0 (by omega), zl_b, zl_b, zi_w_id (x := i + 1) (by omega) (by omega), zi_w_id (x := 120 + i) (by omega) (by omega), zl_ci i0 (by omega), zl_ci (by omega) (by omega), hs i i0 (by omega)]
      by_cases s : zs_has 6 ts i = 0
      · rw [if_pos s, if_pos s]
        by_cases c : yt_nb T i = 0
        · rw [if_pos c, if_pos c]; exact nx
        · rw [if_neg c, if_neg c]; exact .inr ⟨i, rfl, rfl⟩
      · rw [if_neg s, if_neg s]
        by_cases c : yt_nb T i = gp i
        · rw [if_pos c, if_pos c]; exact nx
        · rw [if_neg c, if_neg c]; exact .inr ⟨i, rfl, rfl⟩
    · rw [if_neg q, if_neg q]
      exact .inl ⟨rfl, rfl⟩
theorem yo_check {x n n2 : Int} {T M : Int → Int} (z : yk_sea ts gp gl m) (p : yk_tape n n2 T M) : ∃ r n' n2', zf_X_check x n ts T gp = some (r, n') ∧ zf_M_check x n2 M m = some (r, n2') ∧ yk_tape n' n2' T M := by
  obtain ⟨rfl, n0, n1, hT⟩ := id p
  unfold zf_X_check zf_M_check
  rw [ze_X_isWithin, ze_M_in, zl_b, zl_b]
  by_cases q : zs_in x 0 6 = 0
  · rw [if_pos q, if_pos q]
    exact ⟨-2, n2, n2, rfl, rfl, p⟩
  rw [if_neg q, if_neg q]
  obtain ⟨x1, x2⟩ := zs_in_ne q
  unfold zf_Tape_take
  rw [zi_w_id (x := 4 * x) (by omega) (by omega), zi_div_eq n0 (by omega) (by decide) (by decide)]
  by_cases c : n2 < 4 * x
  · rw [if_pos c, zl_b, if_pos rfl, if_pos (by omega)]
    exact ⟨-2, n2, n2, rfl, rfl, p⟩
  rw [if_neg c, zl_b, if_neg (show ¬ (1 : Int) = 0 by decide), if_neg (show ¬ n2 / 4 < x by omega)]
  have pp : yk_tape 0 0 T M := ⟨rfl, by decide, by decide, hT⟩
  rcases yo_check_l (x := x) z hT (by omega) 6 0 zi_fu zi_fu (by omega) (by decide) (by decide) (by decide) with ⟨e1, e2⟩ | ⟨r, e1, e2⟩
  · dsimp only
    rw [e1, e2, zl_b]
    exact ⟨-1, 0, 0, rfl, rfl, pp⟩
  · dsimp only
    rw [e1, e2, zl_b]
    exact ⟨r, 0, 0, rfl, rfl, pp⟩
end YKE
end
section
/-! count: alike but for the stars. -/
section YCO
variable {t h u cl sc sr ch ts : Int} {co ro br wc wr m gp gl : Int → Int}
theorem yc_row (z : yk_sea ts gp gl m) {y s : Int} (y1 : 0 ≤ y) (y2 : y < 12) (s0 : 0 ≤ s) (s1 : s ≤ 288) : ∀ (d k f : Nat), k + d = 24 → zf_M_landMany_l0 m (f + d) (s + zs_sum (gl y) k) (24 * y + k) = zf_M_landMany_l0 m f (s + zs_sum (gl y) 24) (24 * y + 24) := by
  obtain ⟨⟨-, -, -, -, hr, hl⟩, -⟩ := z
  intro d
  induction d with
  | zero =>
    intro k f e
    obtain rfl : k = 24 := by omega
    rfl
  | succ d ih =>
    intro k f e
    have b := zs_sum_in (t := gl y) k
    have hp := hl (k : Int) y (by omega) (by omega) y1 y2
    rw [show f + (d + 1) = (f + d) + 1 by omega]
    show zf_M_landMany_l0_b m (zf_M_landMany_l0 m (f + d)) (s + zs_sum (gl y) k) (24 * y + k) = _
    unfold zf_M_landMany_l0_b
    rw [if_pos (by omega), zi_w_id (x := 134 + (24 * y + (k : Int))) (by omega) (by omega), zl_ci (by omega) (by omega), hp, zi_w_id (x := 24 * y + (k : Int) + 1) (by omega) (by omega), zi_w_id (x := s + zs_sum (gl y) k + (if zi_tb (gl y) (k : Int) = true then 1 else 0)) (by split <;> omega) (by split <;> omega)]
    have := ih (k + 1) f (by omega)
    rw [← this]
    congr 1
    · show _ = s + (zs_sum (gl y) k + (if zi_tb (gl y) (k : Int) = true then 1 else 0))
      omega
    · omega
theorem yc_land_l (z : yk_sea ts gp gl m) : ∀ (d : Nat) (y s : Int) (f f2 : Nat), y + d = 12 → 0 ≤ y → 0 ≤ s → s ≤ 24 * y → d < f → 24 * d < f2 → ∃ a, zf_Sea_countLand_l0 gl f s y = some a ∧ zf_M_landMany_l0 m f2 s (24 * y) = some a := by
  intro d
  induction d with
  | zero =>
    intro y s f f2 e y0 s0 s1 hf hf2
    obtain ⟨f, rfl⟩ : ∃ q, f = q + 1 := ⟨f - 1, by omega⟩
    obtain ⟨f2, rfl⟩ : ∃ q, f2 = q + 1 := ⟨f2 - 1, by omega⟩
    refine ⟨s, ?_, ?_⟩
    · show zf_Sea_countLand_l0_b gl (zf_Sea_countLand_l0 gl f) s y = _
      unfold zf_Sea_countLand_l0_b
      rw [if_neg (by omega)]
    · show zf_M_landMany_l0_b m (zf_M_landMany_l0 m f2) s (24 * y) = _
      unfold zf_M_landMany_l0_b
      rw [if_neg (by omega)]
  | succ d ih =>
    intro y s f f2 e y0 s0 s1 hf hf2
    obtain ⟨f, rfl⟩ : ∃ q, f = q + 1 := ⟨f - 1, by omega⟩
    obtain ⟨f2, rfl⟩ : ∃ q, f2 = q + 24 := ⟨f2 - 24, by omega⟩
    have b := zs_sum_in (t := gl y) 24
    have hy := z.1.2.2.2.2.1 y y0 (by omega)
    obtain ⟨a, e1, e2⟩ := ih (y + 1) (s + zs_sum (gl y) 24) f f2 (by omega) (by omega) (by omega) (by omega) (by omega) (by omega)
    refine ⟨a, ?_, ?_⟩
    · show zf_Sea_countLand_l0_b gl (zf_Sea_countLand_l0 gl f) s y = _
      unfold zf_Sea_countLand_l0_b
      rw [if_pos (by omega), zl_ci y0 (by omega), ze_bitCount hy.1 (by omega), zl_b, zi_w_id (x := s + zs_sum (gl y) 24) (by omega) (by omega), zi_w_id (x := y + 1) (by omega) (by omega), e1]
    · have r := yc_row z y0 (by omega : y < 12) s0 (by omega) 24 0 f2 rfl
      rw [show s + zs_sum (gl y) 0 = s from Int.add_zero s, show 24 * y + ((0 : Nat) : Int) = 24 * y by omega] at r
      rw [r, show 24 * y + 24 = 24 * (y + 1) by omega, e2]
theorem yc_land (z : yk_sea ts gp gl m) : ∃ a, zf_Sea_countLand gl = some a ∧ zf_M_landMany m = some a := by
  obtain ⟨a, e1, e2⟩ := yc_land_l z 12 0 0 zi_fu zi_fu (by decide) (by decide) (by decide) (by decide) (by decide) (by decide)
  refine ⟨a, ?_, ?_⟩
  · unfold zf_Sea_countLand
    rw [e1]; rfl
  · unfold zf_M_landMany
    rw [show zf_M_landMany_l0 m zi_fu 0 0 = _ from e2]; rfl
theorem yo_count (k : yk_sky t h u cl sc sr ch co ro br wc wr m) (z : yk_sea ts gp gl m) {n nc tl sz : Int} : ∃ a b, zf_X_count n h u cl t ts nc tl sz ch sc sr gl gp = some a ∧ zf_M_count n nc tl sz m = some b ∧ (n ≠ 3 → a = b) := by
  obtain ⟨⟨ht, k126⟩, ⟨hk2, k128⟩, k129, ⟨hk4, k130⟩, ⟨hk5, k131⟩, ⟨hk6, k132⟩, ⟨hk7, k133⟩, -⟩ := k
  obtain ⟨⟨t1, t2, e127, hs, -⟩, -⟩ := id z
  unfold zf_X_count zf_M_count
  rw [k128, k129, k130, k126, e127, k133, k131, k132]
  by_cases q0 : n = 0
  · rw [if_pos q0, if_pos q0]; exact ⟨_, _, rfl, rfl, fun _ => rfl⟩
  rw [if_neg q0, if_neg q0]
  by_cases q1 : n = 1
  · rw [if_pos q1, if_pos q1]; exact ⟨_, _, rfl, rfl, fun _ => rfl⟩
  rw [if_neg q1, if_neg q1]
  by_cases q2 : n = 2
  · rw [if_pos q2, if_pos q2]; exact ⟨_, _, rfl, rfl, fun _ => rfl⟩
  rw [if_neg q2, if_neg q2]
  by_cases q3 : n = 3
  · rw [if_pos q3, if_pos q3, ze_bitCount ht.1 (by have := ht.2; omega), zl_b]; exact ⟨_, _, rfl, rfl, fun c => absurd q3 c⟩
  rw [if_neg q3, if_neg q3]
  by_cases q4 : n = 4
  · rw [if_pos q4, if_pos q4]; exact ⟨_, _, rfl, rfl, fun _ => rfl⟩
  rw [if_neg q4, if_neg q4]
  by_cases q5 : n = 5
  · rw [if_pos q5, if_pos q5]; exact ⟨_, _, rfl, rfl, fun _ => rfl⟩
  rw [if_neg q5, if_neg q5]
  by_cases q6 : n = 6
  · rw [if_pos q6, if_pos q6]; exact ⟨_, _, rfl, rfl, fun _ => rfl⟩
  rw [if_neg q6, if_neg q6]
  by_cases q7 : n = 7
  · rw [if_pos q7, if_pos q7]; exact ⟨_, _, rfl, rfl, fun _ => rfl⟩
  rw [if_neg q7, if_neg q7]
  by_cases q8 : n = 8
  · rw [if_pos q8, if_pos q8]; exact ⟨_, _, rfl, rfl, fun _ => rfl⟩
  rw [if_neg q8, if_neg q8]
  by_cases q9 : n = 9
  · rw [if_pos q9, if_pos q9]; exact ⟨_, _, rfl, rfl, fun _ => rfl⟩
  rw [if_neg q9, if_neg q9]
  by_cases q10 : n = 10
  · obtain ⟨a, e1, e2⟩ := yc_land z
    rw [if_pos q10, if_pos q10, e1, e2]
    exact ⟨a, a, rfl, rfl, fun _ => rfl⟩
  rw [if_neg q10, if_neg q10, ze_X_isWithin, ze_M_in, zl_b, zl_b]
  by_cases q : zs_in n 20 25 = 0
  · rw [if_pos q, if_pos q]; exact ⟨_, _, rfl, rfl, fun _ => rfl⟩
  rw [if_neg q, if_neg q]
  obtain ⟨n1, n2⟩ := zs_in_ne q
  rw [zi_w_id (x := n - 20) (by omega) (by omega), zi_w_id (x := 120 + n) (by omega) (by omega), zi_w_id (x := 120 + n - 20) (by omega) (by omega), ze_Sea_hasShip t1 (by omega), zl_b, ze_M_isShip (by omega) (by omega), e127, zl_b]
  by_cases s : zs_has 6 ts (n - 20) = 0
  · rw [if_pos s, if_pos s]; exact ⟨_, _, rfl, rfl, fun _ => rfl⟩
  rw [if_neg s, if_neg s, zl_ci (by omega) (by omega), zl_ci (by omega) (by omega)]
  have := hs (n - 20) (by omega) (by omega)
  exact ⟨_, _, rfl, rfl, fun _ => by rw [← this, show 120 + (n - 20) = 120 + n - 20 by omega]⟩
end YCO
end
section
/-! A tale: read alike on both sides. -/
def yt_ln (n : Int) (fr to : Int → Int) (a b : Int) : Prop := ∃ i, 0 ≤ i ∧ i < n ∧ ((fr i = a ∧ to i = b) ∨ (fr i = b ∧ to i = a))
def yk_tl (n nm : Int) (nr fr to : Int → Int) : Prop := (0 ≤ n ∧ n ≤ 12) ∧ (∀ i, 0 ≤ i → i < n → (0 ≤ fr i ∧ fr i ≤ 7) ∧ (0 ≤ to i ∧ to i ≤ 7) ∧ fr i ≠ to i) ∧
  (∀ i j, 0 ≤ i → i < j → j < n → ¬ ((fr i = fr j ∧ to i = to j) ∨ (fr i = to j ∧ to i = fr j))) ∧ z24 nm ∧ (∀ b : Nat, zb nm b = true ↔ ∃ i, 0 ≤ i ∧ i < n ∧ (fr i = b ∨ to i = b)) ∧
  ∀ a, 0 ≤ a → a < 8 → z24 (nr a) ∧ ∀ b : Nat, zb (nr a) b = true ↔ yt_ln n fr to a b
def yt_nm (T : Int → Int) (len p : Int) : Int := if p < len ∧ 65 ≤ T p ∧ T p ≤ 72 then T p - 65 else -1
section YTL
variable {T M nr fr to : Int → Int} {len n nm a b p f : Int}
theorem ze_fault (h1 : 0 ≤ p) (h2 : p ≤ 220) {x : Int} (k1 : 0 ≤ x) (k2 : x ≤ 6) : zf_X_faultAt x p = some (-1000 * x - p) := by
  unfold zf_X_faultAt
  rw [zi_w_id (x := -1000 * x) (by omega) (by omega), zi_w_id (x := -1000 * x - p) (by omega) (by omega)]
theorem yt_ln_up (h0 : 0 ≤ n) {p q : Int} : yt_ln (n + 1) (zv_up fr n a) (zv_up to n b) p q ↔ yt_ln n fr to p q ∨ (a = p ∧ b = q) ∨ (a = q ∧ b = p) := by
  constructor
  · rintro ⟨i, i0, i1, h⟩
    by_cases e : i = n
    · subst e
      rw [zv_up_s, zv_up_s] at h
      exact .inr h
    · rw [zv_up_n e, zv_up_n e] at h
      exact .inl ⟨i, i0, by omega, h⟩
  · rintro (⟨i, i0, i1, h⟩ | h)
    · refine ⟨i, i0, by omega, ?_⟩
      rw [zv_up_n (by omega), zv_up_n (by omega)]
      exact h
    · refine ⟨n, h0, by omega, ?_⟩
      rw [zv_up_s, zv_up_s]
      exact h
theorem yk_tl_add (h : yk_tl n nm nr fr to) (hn : n < 12) (a0 : 0 ≤ a) (a1 : a ≤ 7) (b0 : 0 ≤ b) (b1 : b ≤ 7) (ab : a ≠ b) (nt : ¬ yt_ln n fr to a b) :
    yk_tl (n + 1) (zi_or nm (zi_or (zi_shl 1 a) (zi_shl 1 b))) (zv_up (zv_up nr a (zi_or (nr a) (zi_shl 1 b))) b (zi_or (zv_up nr a (zi_or (nr a) (zi_shl 1 b)) b) (zi_shl 1 a))) (zv_up fr n a) (zv_up to n b) := by
  obtain ⟨⟨n0, n1⟩, hi, hd, hz, hb, hr⟩ := h
  refine ⟨⟨by omega, by omega⟩, fun i i0 i1 => ?_, fun i j i0 ij j1 => ?_, z24_or hz (z24_or (z24_shl a0 (by omega)) (z24_shl b0 (by omega))), fun c => ?_, fun c c0 c1 => ?_⟩
  · by_cases e : i = n
    · subst e
      rw [zv_up_s, zv_up_s]
      exact ⟨⟨a0, a1⟩, ⟨b0, b1⟩, ab⟩
    · rw [zv_up_n e, zv_up_n e]
      exact hi i i0 (by omega)
  · rw [zv_up_n (show i ≠ n by omega), zv_up_n (show i ≠ n by omega)]
    by_cases e : j = n
    · subst e
      rw [zv_up_s, zv_up_s]
      exact fun q => nt ⟨i, i0, ij, q⟩
    · rw [zv_up_n e, zv_up_n e]
      exact hd i j i0 ij (by omega)
  · rw [zb_or, zb_or, zb_shl a0 (by omega), zb_shl b0 (by omega), Bool.or_eq_true, Bool.or_eq_true, decide_eq_true_eq, decide_eq_true_eq, hb]
    constructor
    · rintro (⟨i, i0, i1, q⟩ | q)
      · refine ⟨i, i0, by omega, ?_⟩
        rw [zv_up_n (by omega), zv_up_n (by omega)]
        exact q
      · refine ⟨n, n0, by omega, ?_⟩
        rw [zv_up_s, zv_up_s]
        omega
    · rintro ⟨i, i0, i1, q⟩
      by_cases e : i = n
      · subst e
        rw [zv_up_s, zv_up_s] at q
        exact .inr (by omega)
      · rw [zv_up_n e, zv_up_n e] at q
        exact .inl ⟨i, i0, by omega, q⟩
  · obtain ⟨hz2, hb2⟩ := hr c c0 c1
    have hc : ∀ d : Nat, (yt_ln (n + 1) (zv_up fr n a) (zv_up to n b) c d ↔ _) := fun d => yt_ln_up (a := a) (b := b) (fr := fr) (to := to) n0 (p := c) (q := d)
    by_cases e : c = b
    · subst e
      rw [zv_up_s, zv_up_n (Ne.symm ab)]
      refine ⟨z24_or hz2 (z24_shl a0 (by omega)), fun d => ?_⟩
      rw [hc d, zb_or, zb_shl a0 (by omega), Bool.or_eq_true, decide_eq_true_eq, hb2]
      constructor
      · rintro (q | q)
        · exact .inl q
        · exact .inr (.inr ⟨by omega, rfl⟩)
      · rintro (q | ⟨q, q2⟩ | ⟨q, q2⟩)
        · exact .inl q
        · exact absurd q ab
        · exact .inr (by omega)
    · rw [zv_up_n e]
      by_cases e2 : c = a
      · subst e2
        rw [zv_up_s]
        refine ⟨z24_or hz2 (z24_shl b0 (by omega)), fun d => ?_⟩
        rw [hc d, zb_or, zb_shl b0 (by omega), Bool.or_eq_true, decide_eq_true_eq, hb2]
        constructor
        · rintro (q | q)
          · exact .inl q
          · exact .inr (.inl ⟨rfl, by omega⟩)
        · rintro (q | ⟨q, q2⟩ | ⟨q, q2⟩)
          · exact .inl q
          · exact .inr (by omega)
          · exact absurd q2.symm e
      · rw [zv_up_n e2]
        refine ⟨hz2, fun d => ?_⟩
        rw [hc d, hb2]
        constructor
        · exact .inl
        · rintro (q | ⟨q, q2⟩ | ⟨q, q2⟩)
          · exact q
          · exact absurd q.symm e2
          · exact absurd q2.symm e
theorem yt_tw_l (h : yk_tl n nm nr fr to) : ∀ (d : Nat) (j : Int) (f : Nat), n - j ≤ d → 0 ≤ j → d < f → (zf_M_isTwice_l0 a b n fr to f j = some (.inl ()) ∧ ∀ i, j ≤ i → i < n → ¬ ((fr i = a ∧ to i = b) ∨ (fr i = b ∧ to i = a))) ∨ (zf_M_isTwice_l0 a b n fr to f j = some (.inr 1) ∧ ∃ i, j ≤ i ∧ i < n ∧ ((fr i = a ∧ to i = b) ∨ (fr i = b ∧ to i = a))) := by
  intro d
  induction d with
  | zero =>
    intro j f e j0 hf
    obtain ⟨f, rfl⟩ : ∃ q, f = q + 1 := ⟨f - 1, by omega⟩
    refine .inl ⟨?_, fun i _ _ => by omega⟩
    show zf_M_isTwice_l0_b a b n fr to (zf_M_isTwice_l0 a b n fr to f) j = _
    unfold zf_M_isTwice_l0_b
    rw [if_neg (by omega)]
  | succ d ih =>
    intro j f e j0 hf
    obtain ⟨f, rfl⟩ : ∃ q, f = q + 1 := ⟨f - 1, by omega⟩
    have hn := h.1
    show (zf_M_isTwice_l0_b a b n fr to (zf_M_isTwice_l0 a b n fr to f) j = _ ∧ _) ∨ (zf_M_isTwice_l0_b a b n fr to (zf_M_isTwice_l0 a b n fr to f) j = _ ∧ _)
    unfold zf_M_isTwice_l0_b
    by_cases q : j < n
    · rw [if_pos q, zl_ci j0 (by omega), zi_w_id (x := j + 1) (by omega) (by omega)]
      by_cases c : (fr j = a ∧ to j = b) ∨ (fr j = b ∧ to j = a)
      · refine .inr ⟨?_, j, Int.le_refl _, q, c⟩
        by_cases c1 : fr j = a
        · rw [if_pos c1]
          by_cases c2 : to j = b
          · rw [if_pos c2]
          · rw [if_neg c2]
            obtain ⟨c3, c4⟩ : fr j = b ∧ to j = a := by rcases c with c | c; exact absurd c.2 c2; exact c
            rw [if_pos c3, if_pos c4]
        · rw [if_neg c1]
          obtain ⟨c3, c4⟩ : fr j = b ∧ to j = a := by rcases c with c | c; exact absurd c.1 c1; exact c
          rw [if_pos c3, if_pos c4]
      · have nx := ih (j + 1) f (by omega) (by omega) (by omega)
        have go : (if fr j = a then (if to j = b then some (.inr 1) else (if fr j = b then (if to j = a then some (.inr 1) else zf_M_isTwice_l0 a b n fr to f (j + 1)) else zf_M_isTwice_l0 a b n fr to f (j + 1))) else (if fr j = b then (if to j = a then some (.inr 1) else zf_M_isTwice_l0 a b n fr to f (j + 1)) else zf_M_isTwice_l0 a b n fr to f (j + 1))) = zf_M_isTwice_l0 a b n fr to f (j + 1) := by
          (repeat' split) <;> first | rfl | (exfalso; apply c; omega)
        rw [go]
        rcases nx with ⟨e1, e2⟩ | ⟨e1, i, i0, i1, e2⟩
        · refine .inl ⟨e1, fun i i0 i1 => ?_⟩
          by_cases ei : i = j
          · subst ei; exact c
          · exact e2 i (by omega) i1
        · exact .inr ⟨e1, i, by omega, i1, e2⟩
    · rw [if_neg q]
      exact .inl ⟨rfl, fun i _ _ => by omega⟩
theorem yt_tw (h : yk_tl n nm nr fr to) : (zf_M_isTwice a b n fr to = some 0 ∧ ¬ yt_ln n fr to a b) ∨ (zf_M_isTwice a b n fr to = some 1 ∧ yt_ln n fr to a b) := by
  unfold zf_M_isTwice
  rcases yt_tw_l (a := a) (b := b) h 12 0 zi_fu (by have := h.1; omega) (by decide) (by decide) with ⟨e1, e2⟩ | ⟨e1, i, i0, i1, e2⟩
  · rw [e1, zl_b]
    exact .inl ⟨rfl, fun ⟨i, i0, i1, q⟩ => e2 i i0 i1 q⟩
  · rw [e1, zl_b]
    exact .inr ⟨rfl, i, i0, i1, e2⟩
theorem ze_nameAt (h1 : 0 ≤ p) (h2 : len ≤ 220) : zf_Tale_nameAt_220 len p T = some (yt_nm T len p) := by
  unfold zf_Tale_nameAt_220 yt_nm
  rw [if_neg (by omega)]
  by_cases q : p < len
  · rw [if_pos q, if_pos (by omega), zl_ci h1 (by omega)]
    by_cases c : T p < 65
    · rw [if_pos c, if_neg (by omega)]
    rw [if_neg c]
    by_cases c2 : 72 < T p
    · rw [if_pos c2, if_neg (by omega)]
    rw [if_neg c2, if_pos (by omega), zi_w_id (x := T p - 65) (by omega) (by omega)]
  · rw [if_neg q, if_neg (by omega)]
theorem ze_isName (hT : yk_T T M) (h1 : 0 ≤ p) (h2 : len ≤ 220) : zf_M_isName p len M = some (if yt_nm T len p = -1 then 0 else 1) := by
  unfold zf_M_isName
  rw [ze_here hT h1 h2, zl_b, ze_M_in, zl_b]
  unfold yp_pk yt_nm zs_in
  by_cases q : p < len ∧ 65 ≤ T p ∧ T p ≤ 72
  · rw [if_pos q.1, if_pos (show 65 ≤ T p ∧ T p ≤ 72 by omega), if_pos q, if_neg (show ¬ T p - 65 = -1 by omega), zl_c (zi_bo_of (by decide) (by decide))]
  · rw [if_neg q, if_pos rfl]
    by_cases c : p < len
    · rw [if_pos c, if_neg (show ¬ (65 ≤ T p ∧ T p ≤ 72) by omega), zl_c (zi_bo_of (by decide) (by decide))]
    · rw [if_neg c, if_neg (show ¬ ((65 : Int) ≤ -1 ∧ (-1 : Int) ≤ 72) by decide), zl_c (zi_bo_of (by decide) (by decide))]
end YTL
end
section
/-! A tale, read to its end: alike on both sides. -/
section YTR
variable {T M : Int → Int} {len : Int}
theorem yt_nm_in (p : Int) : -1 ≤ yt_nm T len p ∧ yt_nm T len p ≤ 7 := by
  unfold yt_nm
  split <;> omega
theorem yt_nm_pk {p : Int} (h : ¬ yt_nm T len p = -1) : p < len ∧ yp_pk T len p = yt_nm T len p + 65 := by
  unfold yt_nm at h ⊢
  by_cases q : p < len ∧ 65 ≤ T p ∧ T p ≤ 72
  · rw [if_pos q]
    refine ⟨q.1, ?_⟩
    unfold yp_pk
    rw [if_pos q.1]
    omega
  · rw [if_neg q] at h
    exact absurd rfl h
theorem ym_tl_0 {f : Nat} {p n flt : Int} {g1 g2 : Int → Int} : zf_M_tale_l0 len M (f + 1) 0 p n flt g1 g2 = some (0, p, n, flt, g1, g2) := by
  show zf_M_tale_l0_b len M (zf_M_tale_l0 len M f) 0 p n flt g1 g2 = _
  unfold zf_M_tale_l0_b
  rw [if_pos rfl]
def yt_K : ((Int × Int × Int × (Int → Int)) ⊕ (Int × Int × Int × (Int → Int))) → Option (Int × Int × Int × (Int → Int)) := fun q22 => Sum.elim (fun e23 => ((zf_X_faultAt 1 e23.1).bind fun r24 => (some (r24, e23.2.1, e23.2.2.1, e23.2.2.2)))) (fun w25 => some w25) q22
theorem zl_bo {α : Type} {x : Option α} {v : Int} : cond (zi_bo ((0 : Int), v).1) x none = x := rfl
theorem yt_K_l {p n nm : Int} {nr : Int → Int} (p0 : 0 ≤ p) (p1 : p ≤ 220) : yt_K (.inl (p, n, nm, nr)) = some (-1000 * 1 - p, n, nm, nr) := by
  unfold yt_K
  simp only [Sum.elim_inl]
  rw [ze_fault p0 p1 (by decide) (by decide), zl_b]
theorem yt_01 {p n flt : Int} {g1 g2 : Int → Int} {z : Int × Int × Int × Int × (Int → Int) × (Int → Int)} (h : zf_M_readsTaleLine p len n flt M g1 g2 = some z) : z.1 = 0 ∨ z.1 = 1 := by
  unfold zf_M_readsTaleLine zf_M_wrongAt at h
  obtain ⟨r1, -, h⟩ := Option.bind_eq_some_iff.mp h
  split at h
  · rw [zl_b, zl_bo] at h; cases h; exact .inl rfl
  split at h
  · rw [zl_b, zl_bo] at h; cases h; exact .inl rfl
  obtain ⟨r4, -, h⟩ := Option.bind_eq_some_iff.mp h
  obtain ⟨r5, -, h⟩ := Option.bind_eq_some_iff.mp h
  split at h
  · rw [zl_b, zl_bo] at h; cases h; exact .inl rfl
  obtain ⟨r7, -, h⟩ := Option.bind_eq_some_iff.mp h
  split at h
  · rw [zl_b, zl_bo] at h; cases h; exact .inl rfl
  obtain ⟨r9, -, h⟩ := Option.bind_eq_some_iff.mp h
  split at h
  · obtain ⟨-, h⟩ := zi_if h
    cases h; exact .inr rfl
  · rw [zl_b, zl_bo] at h; cases h; exact .inl rfl
theorem yt_read (hT : yk_T T M) (l1 : 1 ≤ len) (l2 : len ≤ 60) : ∀ (d : Nat) (p n nm flt : Int) (nr g1 g2 : Int → Int) (f f2 : Nat), len - p ≤ d → 0 ≤ p → p ≤ len → d < f → d + 1 < f2 → yk_tl n nm nr g1 g2 →
    ∃ r n' nm' nr' ok p' n2 flt' g1' g2', ((zf_Tale_read_220_l0 len T f p n nm nr).bind yt_K = some (r, n', nm', nr')) ∧
      ((zf_M_readsTaleLine p len n flt M g1 g2).bind fun r4 => zf_M_tale_l0 len M f2 r4.1 r4.2.1 r4.2.2.1 r4.2.2.2.1 r4.2.2.2.2.1 r4.2.2.2.2.2) = some (ok, p', n2, flt', g1', g2') ∧
      ((ok = 0 ∧ r = flt' ∧ r ≤ 0) ∨ (ok = 1 ∧ r = n2 ∧ n' = n2 ∧ 0 < r ∧ yk_tl n' nm' nr' g1' g2')) := by
  intro d
  induction d with
  | zero =>
    intro p n nm flt nr g1 g2 f f2 e p0 p1 hf hf2 h
    obtain ⟨f, rfl⟩ : ∃ q, f = q + 1 := ⟨f - 1, by omega⟩
    obtain ⟨f2, rfl⟩ : ∃ q, f2 = q + 1 := ⟨f2 - 1, by omega⟩
    have hnm : yt_nm T len p = -1 := by
      unfold yt_nm; rw [if_neg (by omega)]
    refine ⟨-1000 * 1 - p, n, nm, nr, 0, p, n, -1000 * 1 - p, g1, g2, ?_, ?_, .inl ⟨rfl, rfl, by omega⟩⟩
    · show ((zf_Tale_read_220_l0_b len T (zf_Tale_read_220_l0 len T f) p n nm nr).bind yt_K) = _
      unfold zf_Tale_read_220_l0_b
      rw [if_neg (by omega), zl_b]
      exact yt_K_l p0 (by omega)
    · unfold zf_M_readsTaleLine
      rw [ze_isName hT p0 (by omega), zl_b, if_pos hnm, if_pos rfl, ze_wrong p0 (by omega) (by decide) (by decide), zl_b, zl_bo, zl_b]
      exact ym_tl_0
  | succ d ih =>
    intro p n nm flt nr g1 g2 f f2 e p0 p1 hf hf2 h
    obtain ⟨f, rfl⟩ : ∃ q, f = q + 1 := ⟨f - 1, by omega⟩
    obtain ⟨f2, rfl⟩ : ∃ q, f2 = q + 1 := ⟨f2 - 1, by omega⟩
    obtain ⟨⟨n0, n1⟩, -, -, -, -, hr⟩ := id h
    have ha := yt_nm_in (T := T) (len := len) p
    have hb := yt_nm_in (T := T) (len := len) (p + 1)
    show ∃ r n' nm' nr' ok p' n2 flt' g1' g2', ((zf_Tale_read_220_l0_b len T (zf_Tale_read_220_l0 len T f) p n nm nr).bind yt_K = _) ∧ _
    unfold zf_Tale_read_220_l0_b zf_M_readsTaleLine
    by_cases q : ¬ p < len
    · have hnm : yt_nm T len p = -1 := by
        unfold yt_nm; rw [if_neg (by omega)]
      rw [if_neg q, zl_b, ze_isName hT p0 (by omega), zl_b, if_pos hnm, if_pos rfl, ze_wrong p0 (by omega) (by decide) (by decide), zl_b, zl_bo, zl_b]
      exact ⟨-1000 * 1 - p, n, nm, nr, 0, p, n, -1000 * 1 - p, g1, g2, yt_K_l p0 (by omega), ym_tl_0, .inl ⟨rfl, rfl, by omega⟩⟩
    have q : p < len := by omega
    rw [if_pos q, if_neg (show ¬ 12 < n by omega), ze_nameAt p0 (by omega), zl_b, ze_isName hT p0 (by omega), zl_b]
    by_cases c1 : yt_nm T len p = -1
    · rw [if_pos c1, if_pos c1, if_pos rfl, ze_fault p0 (by omega) (by decide) (by decide), zl_b, zl_b, ze_wrong p0 (by omega) (by decide) (by decide), zl_b, zl_bo, zl_b]
      exact ⟨-1000 * 1 - p, n, nm, nr, 0, p, n, -1000 * 1 - p, g1, g2, rfl, ym_tl_0, .inl ⟨rfl, rfl, by omega⟩⟩
    rw [if_neg c1, if_neg c1, if_neg (show ¬ (1 : Int) = 0 by decide)]
    by_cases c2 : n = 12
    · rw [if_pos c2, if_pos c2, ze_fault p0 (by omega) (by decide) (by decide), zl_b, zl_b, ze_wrong p0 (by omega) (by decide) (by decide), zl_b, zl_bo, zl_b]
      exact ⟨-1000 * 4 - p, n, nm, nr, 0, p, n, -1000 * 4 - p, g1, g2, rfl, ym_tl_0, .inl ⟨rfl, rfl, by omega⟩⟩
    rw [if_neg c2, if_neg c2, ze_here hT p0 (by omega), zl_b, zi_w_id (x := p + 1) (by omega) (by omega), ze_nameAt (show 0 ≤ p + 1 by omega) (by omega), zl_b, ze_isName hT (show 0 ≤ p + 1 by omega) (by omega), zl_b]
    by_cases c3 : yt_nm T len (p + 1) = -1
    · rw [if_pos c3, if_pos c3, if_pos rfl, ze_fault (show 0 ≤ p + 1 by omega) (by omega) (by decide) (by decide), zl_b, zl_b, ze_wrong (show 0 ≤ p + 1 by omega) (by omega) (by decide) (by decide), zl_b, zl_bo, zl_b]
      exact ⟨-1000 * 1 - (p + 1), n, nm, nr, 0, p + 1, n, -1000 * 1 - (p + 1), g1, g2, rfl, ym_tl_0, .inl ⟨rfl, rfl, by omega⟩⟩
    obtain ⟨-, pk1⟩ := yt_nm_pk c1
    obtain ⟨q2, pk2⟩ := yt_nm_pk c3
    rw [if_neg c3, if_neg c3, if_neg (show ¬ (1 : Int) = 0 by decide), ze_here hT (show 0 ≤ p + 1 by omega) (by omega), zl_b, pk1, pk2, zi_w_id (x := yt_nm T len p + 65 - 65) (by omega) (by omega), zi_w_id (x := yt_nm T len (p + 1) + 65 - 65) (by omega) (by omega), Int.add_sub_cancel, Int.add_sub_cancel]
    by_cases c4 : yt_nm T len (p + 1) = yt_nm T len p
    · rw [if_pos c4, if_pos c4.symm, ze_fault (show 0 ≤ p + 1 by omega) (by omega) (by decide) (by decide), zl_b, zl_b, ze_wrong (show 0 ≤ p + 1 by omega) (by omega) (by decide) (by decide), zl_b, zl_bo, zl_b]
      exact ⟨-1000 * 3 - (p + 1), n, nm, nr, 0, p + 1, n, -1000 * 3 - (p + 1), g1, g2, rfl, ym_tl_0, .inl ⟨rfl, rfl, by omega⟩⟩
    rw [if_neg c4, if_neg (show ¬ yt_nm T len p = yt_nm T len (p + 1) from fun w => c4 w.symm), zl_ci (show 0 ≤ yt_nm T len p by omega) (by omega), zb_bit (show 0 ≤ yt_nm T len (p + 1) by omega) (by omega)]
    have hbit := (hr (yt_nm T len p) (by omega) (by omega)).2 (yt_nm T len (p + 1)).toNat
    rw [Int.toNat_of_nonneg (by omega)] at hbit
    rcases yt_tw (a := yt_nm T len p) (b := yt_nm T len (p + 1)) h with ⟨e1, nt⟩ | ⟨e1, nt⟩
    rotate_left
    · rw [e1, zl_b, if_neg (show ¬ (1 : Int) = 0 by decide), if_pos (hbit.mpr nt), if_neg (show ¬ (1 : Int) = 0 by decide), ze_fault p0 (by omega) (by decide) (by decide), zl_b, zl_b, ze_wrong p0 (by omega) (by decide) (by decide), zl_b, zl_bo, zl_b]
      exact ⟨-1000 * 6 - p, n, nm, nr, 0, p + 1, n, -1000 * 6 - p, g1, g2, rfl, ym_tl_0, .inl ⟨rfl, rfl, by omega⟩⟩
    rw [e1, zl_b, if_pos rfl, if_neg (fun w => nt (hbit.mp w)), if_pos rfl, zl_ci n0 (by omega), zl_b]
    have hadd := yk_tl_add h (a := yt_nm T len p) (b := yt_nm T len (p + 1)) (by omega) (by omega) (by omega) (by omega) (by omega) (fun w => c4 w.symm) nt
    unfold zf_Tale_addLine
    rw [zl_ci (by omega) (by omega), zl_ci (by omega) (by omega), zl_b, zi_w_id (x := n + 1) (by omega) (by omega), zi_w_id (x := p + 1 + 1) (by omega) (by omega), zi_w_id (x := p + 2) (by omega) (by omega)]
    dsimp only
    obtain ⟨f2, rfl⟩ : ∃ q, f2 = q + 1 := ⟨f2 - 1, by omega⟩
    show ∃ r n' nm' nr' ok p' n2 flt' g1' g2', _ ∧ zf_M_tale_l0_b len M (zf_M_tale_l0 len M (f2 + 1)) 1 (p + 1 + 1) (n + 1) flt _ _ = _ ∧ _
    unfold zf_M_tale_l0_b
    rw [if_neg (show ¬ (1 : Int) = 0 by decide), show p + 1 + 1 = p + 2 by omega]
    by_cases c5 : p + 2 = len
    · rw [if_pos c5, if_neg (by omega), zl_b]
      exact ⟨n + 1, n + 1, _, _, 1, p + 2, n + 1, flt, _, _, rfl, rfl, .inr ⟨rfl, rfl, rfl, by omega, hadd⟩⟩
    rw [if_neg c5, if_pos (show p + 2 < len by omega), zl_ci (by omega) (by omega)]
    unfold zf_M_takes
    rw [ze_here hT (show 0 ≤ p + 2 by omega) (by omega), zl_b]
    have pk : yp_pk T len (p + 2) = T (p + 2) := if_pos (by omega)
    rw [pk]
    by_cases c6 : T (p + 2) = 59
    · rw [if_pos c6, if_pos c6, zl_b, if_neg (show ¬ (1 : Int) = 0 by decide), zi_w_id (x := p + 2 + 1) (by omega) (by omega)]
      dsimp only
      obtain ⟨r, n', nm', nr', ok, p', n2, flt', g1', g2', x1, x2, x3⟩ := ih (p + 2 + 1) (n + 1) _ flt _ _ _ f (f2 + 1) (by omega) (by omega) (by omega) (by omega) (by omega) hadd
      refine ⟨r, n', nm', nr', ok, p', n2, flt', g1', g2', x1, ?_, x3⟩
      rw [← x2]
      generalize hz : zf_M_readsTaleLine (p + 2 + 1) len (n + 1) flt M (zv_up g1 n (yt_nm T len p)) (zv_up g2 n (yt_nm T len (p + 1))) = z
      cases z with
      | none => rfl
      | some z =>
        rw [zl_b, zl_b]
        rcases yt_01 hz with c | c
        · rw [if_pos c, c]
        · rw [if_neg (by rw [c]; decide), c]
    · rw [if_neg c6, if_neg c6, ze_fault (show 0 ≤ p + 2 by omega) (by omega) (by decide) (by decide), zl_b, zl_b, ze_wrong (show 0 ≤ p + 2 by omega) (by omega) (by decide) (by decide), zl_b, zl_bo, zl_b, if_pos rfl]
      exact ⟨-1000 * 1 - (p + 2), n + 1, _, _, 0, p + 2, n + 1, -1000 * 1 - (p + 2), _, _, rfl, ym_tl_0, .inl ⟨rfl, rfl, by omega⟩⟩
end YTR
end
section
/-! tale: alike on both sides. -/
section YTE
variable {T M : Int → Int}
theorem ze_fill8_l0 {v : Int} : ∀ (d : Nat) (j : Int) (g : Int → Int) (n : Nat), j + d = 8 → 0 ≤ j → d < n → ∃ g2, zf_Arrays_fill_8_l0 v 8 n j g = some g2 ∧ (∀ i, j ≤ i → i < 8 → g2 i = v) ∧ ∀ i, i < j → g2 i = g i := by
  intro d
  induction d with
  | zero =>
    intro j g n e _ hn
    obtain ⟨n, rfl⟩ : ∃ q, n = q + 1 := ⟨n - 1, by omega⟩
    refine ⟨g, ?_, fun i _ _ => by omega, fun _ _ => rfl⟩
    show zf_Arrays_fill_8_l0_b v 8 (zf_Arrays_fill_8_l0 v 8 n) j g = _
    unfold zf_Arrays_fill_8_l0_b
    rw [if_neg (by omega)]
  | succ d ih =>
    intro j g n e j0 hn
    obtain ⟨n, rfl⟩ : ∃ q, n = q + 1 := ⟨n - 1, by omega⟩
    obtain ⟨g2, e1, a, b⟩ := ih (j + 1) (zv_up g j v) n (by omega) (by omega) (by omega)
    refine ⟨g2, ?_, fun i i1 i2 => ?_, fun i i1 => ?_⟩
    · show zf_Arrays_fill_8_l0_b v 8 (zf_Arrays_fill_8_l0 v 8 n) j g = _
      unfold zf_Arrays_fill_8_l0_b
      rw [if_pos (by omega), zl_ci j0 (by omega), zi_w_id (x := j + 1) (by omega) (by omega), e1]
    · by_cases q : i = j
      · subst q
        rw [b i (by omega), zv_up_s]
      · exact a i (by omega) i2
    · rw [b i (by omega), zv_up_n (by omega)]
theorem ze_fill8 {v : Int} {g : Int → Int} : ∃ g2, zf_Arrays_fill_8 v g = some g2 ∧ ∀ i, 0 ≤ i → i < 8 → g2 i = v := by
  obtain ⟨g2, e1, a, -⟩ := ze_fill8_l0 (v := v) 8 0 g zi_fu (by decide) (by decide) (by decide)
  refine ⟨g2, ?_, a⟩
  unfold zf_Arrays_fill_8
  rw [e1]; rfl
theorem yk_tl_0 {nr fr to : Int → Int} (h : ∀ i, 0 ≤ i → i < 8 → nr i = 0) : yk_tl 0 0 nr fr to := by
  refine ⟨⟨by decide, by decide⟩, fun i _ _ => by omega, fun i j _ _ _ => by omega, z24_0, fun b => ?_, fun a a0 a1 => ?_⟩
  · rw [zb_0]
    exact ⟨fun h => (by cases h), fun ⟨i, _, _, _⟩ => (by omega)⟩
  · rw [h a a0 a1]
    refine ⟨z24_0, fun b => ?_⟩
    rw [zb_0]
    exact ⟨fun h => (by cases h), fun ⟨i, _, _, _⟩ => (by omega)⟩
theorem yt_cp_l {n nm : Int} {nr fr to : Int → Int} (h : yk_tl n nm nr fr to) : ∀ (d : Nat) (j s : Int) (g3 g4 : Int → Int) (f : Nat), j + d = n → 0 ≤ j → d < f → z24 s → (∀ b : Nat, zb s b = true ↔ ∃ i, 0 ≤ i ∧ i < j ∧ (fr i = b ∨ to i = b)) → (∀ i, 0 ≤ i → i < j → g3 i = fr i ∧ g4 i = to i) →
    ∃ g3' g4', zf_M_tale_l1 n fr to f j s g3 g4 = some (nm, g3', g4') ∧ ∀ i, 0 ≤ i → i < n → g3' i = fr i ∧ g4' i = to i := by
  obtain ⟨⟨n0, n1⟩, hi, -, hz, hb, -⟩ := id h
  intro d
  induction d with
  | zero =>
    intro j s g3 g4 f e j0 hf sz sb gg
    obtain ⟨f, rfl⟩ : ∃ q, f = q + 1 := ⟨f - 1, by omega⟩
    obtain rfl : j = n := by omega
    have es : s = nm := z24_ext sz hz fun b _ => by
      rw [Bool.eq_iff_iff, sb, hb]
    refine ⟨g3, g4, ?_, gg⟩
    show zf_M_tale_l1_b j fr to (zf_M_tale_l1 j fr to f) j s g3 g4 = _
    unfold zf_M_tale_l1_b
    rw [if_neg (by omega), es]
  | succ d ih =>
    intro j s g3 g4 f e j0 hf sz sb gg
    obtain ⟨f, rfl⟩ : ∃ q, f = q + 1 := ⟨f - 1, by omega⟩
    obtain ⟨⟨a0, a1⟩, ⟨b0, b1⟩, -⟩ := hi j j0 (by omega)
    obtain ⟨g3', g4', e1, e2⟩ := ih (j + 1) (zi_or (zi_or s (zi_shl 1 (fr j))) (zi_shl 1 (to j))) (zv_up g3 j (fr j)) (zv_up g4 j (to j)) f (by omega) (by omega) (by omega) (z24_or (z24_or sz (z24_shl a0 (by omega))) (z24_shl b0 (by omega))) (fun b => by
      rw [zb_or, zb_or, zb_shl a0 (by omega), zb_shl b0 (by omega), Bool.or_eq_true, Bool.or_eq_true, decide_eq_true_eq, decide_eq_true_eq, sb]
      constructor
      · rintro ((⟨i, i0, i1, q⟩ | q) | q)
        · exact ⟨i, i0, by omega, q⟩
        · exact ⟨j, j0, by omega, by omega⟩
        · exact ⟨j, j0, by omega, by omega⟩
      · rintro ⟨i, i0, i1, q⟩
        by_cases ei : i = j
        · subst ei
          rcases q with q | q
          · exact .inl (.inr (by omega))
          · exact .inr (by omega)
        · exact .inl (.inl ⟨i, i0, by omega, q⟩)) (fun i i0 i1 => by
      by_cases ei : i = j
      · subst ei
        rw [zv_up_s, zv_up_s]
        exact ⟨rfl, rfl⟩
      · rw [zv_up_n ei, zv_up_n ei]
        exact gg i i0 (by omega))
    refine ⟨g3', g4', ?_, e2⟩
    show zf_M_tale_l1_b n fr to (zf_M_tale_l1 n fr to f) j s g3 g4 = _
    unfold zf_M_tale_l1_b
    rw [if_pos (by omega), zl_ci j0 (by omega), zi_w_id (x := j + 1) (by omega) (by omega), zv_up_s, zv_up_s, e1]
theorem yk_tl_cg {n nm : Int} {nr fr to fr2 to2 : Int → Int} (h : yk_tl n nm nr fr to) (e : ∀ i, 0 ≤ i → i < n → fr2 i = fr i ∧ to2 i = to i) : yk_tl n nm nr fr2 to2 := by
  obtain ⟨hn, hi, hd, hz, hb, hr⟩ := h
  refine ⟨hn, fun i i0 i1 => ?_, fun i j i0 ij j1 => ?_, hz, fun b => ?_, fun a a0 a1 => ⟨(hr a a0 a1).1, fun b => ?_⟩⟩
  · rw [(e i i0 i1).1, (e i i0 i1).2]; exact hi i i0 i1
  · rw [(e i i0 (by omega)).1, (e i i0 (by omega)).2, (e j (by omega) j1).1, (e j (by omega) j1).2]
    exact hd i j i0 ij j1
  · rw [hb]
    constructor
    · rintro ⟨i, i0, i1, q⟩; exact ⟨i, i0, i1, by rw [(e i i0 i1).1, (e i i0 i1).2]; exact q⟩
    · rintro ⟨i, i0, i1, q⟩; exact ⟨i, i0, i1, by rw [(e i i0 i1).1, (e i i0 i1).2] at q; exact q⟩
  · rw [(hr a a0 a1).2]
    constructor
    · rintro ⟨i, i0, i1, q⟩; exact ⟨i, i0, i1, by rw [(e i i0 i1).1, (e i i0 i1).2]; exact q⟩
    · rintro ⟨i, i0, i1, q⟩; exact ⟨i, i0, i1, by rw [(e i i0 i1).1, (e i i0 i1).2] at q; exact q⟩
theorem yo_tale {x n n2 f2 f3 p0 l0 nl flt tl ni : Int} {g1 s1 s2 fr to : Int → Int} (p : yk_tape n n2 T M) :
    ∃ r n' n2' a b c i j p0' l0' nl' flt' tl' ni' s1' s2' fr' to', zf_X_tale x n f2 f3 T g1 = some (r, n', a, b, c, i, j) ∧ zf_M_tale x n2 p0 l0 nl flt tl ni M s1 s2 fr to = some (r, n2', p0', l0', nl', flt', tl', ni', s1', s2', fr', to') ∧ yk_tape n' n2' T M ∧
      ((i = 2 ∧ j = 5 ∧ tl' = tl ∧ ni' = ni ∧ fr' = fr ∧ to' = to) ∨ (i = 5 ∧ j = 2 ∧ tl' = a ∧ ni' = b ∧ yk_tl a b c fr' to')) := by
  obtain ⟨rfl, n0, n1, hT⟩ := id p
  unfold zf_X_tale zf_M_tale
  rw [ze_X_isWithin, ze_M_in, zl_b, zl_b]
  by_cases q : zs_in x 1 60 = 0
  · rw [if_pos q, if_pos q]
    exact ⟨-1, n2, n2, f2, f3, g1, 2, 5, p0, l0, nl, flt, tl, ni, s1, s2, fr, to, rfl, rfl, p, .inl ⟨rfl, rfl, rfl, rfl, rfl, rfl⟩⟩
  rw [if_neg q, if_neg q]
  obtain ⟨x1, x2⟩ := zs_in_ne q
  unfold zf_Tape_take
  by_cases c : n2 < x
  · rw [if_pos c, if_pos c, zl_b, if_pos rfl]
    exact ⟨-1, n2, n2, f2, f3, g1, 2, 5, p0, l0, nl, flt, tl, ni, s1, s2, fr, to, rfl, rfl, p, .inl ⟨rfl, rfl, rfl, rfl, rfl, rfl⟩⟩
  rw [if_neg c, if_neg c, zl_b, if_neg (show ¬ (1 : Int) = 0 by decide)]
  have pp : yk_tape 0 0 T M := ⟨rfl, by decide, by decide, hT⟩
  obtain ⟨nr0, ef, hz⟩ := ze_fill8 (v := 0) (g := g1)
  obtain ⟨r, a, b, cc, ok, p', nn, flt', s1', s2', e1, e2, e3⟩ := yt_read hT x1 x2 60 0 0 0 flt nr0 s1 s2 zi_fu zi_fu (by omega) (by decide) (by omega) (by decide) (by decide) (yk_tl_0 hz)
  unfold zf_Tale_read_220
  rw [ef, zl_b]
  have e1' : ((zf_Tale_read_220_l0 x T zi_fu 0 0 0 nr0).bind fun q22 => Sum.elim (fun e23 => ((zf_X_faultAt 1 e23.1).bind fun r24 => (some (r24, e23.2.1, e23.2.2.1, e23.2.2.2)))) (fun w25 => some w25) q22) = some (r, a, b, cc) := e1
  rw [e1', zl_b]
  have e2' : ∀ {γ : Type} (K : Int × Int × Int × Int × (Int → Int) × (Int → Int) → Option γ), ((zf_M_readsTaleLine 0 x 0 flt M s1 s2).bind fun r4 => (zf_M_tale_l0 x M zi_fu r4.1 r4.2.1 r4.2.2.1 r4.2.2.2.1 r4.2.2.2.2.1 r4.2.2.2.2.2).bind K) = K (ok, p', nn, flt', s1', s2') := fun K => by
    revert e2
    generalize zf_M_readsTaleLine 0 x 0 flt M s1 s2 = z
    intro e2
    cases z with
    | none => cases e2
    | some z =>
      rw [zl_b] at e2 ⊢
      rw [e2, zl_b]
  rw [e2']
  dsimp only
  rcases e3 with ⟨eo, er, hr⟩ | ⟨eo, er, ea, hr, ht⟩
  · rw [if_neg (show ¬ 0 < r by omega), if_pos eo]
    exact ⟨r, 0, 0, a, b, cc, 2, 5, p', x, nn, flt', tl, ni, s1', s2', fr, to, rfl, by rw [er], pp, .inl ⟨rfl, rfl, rfl, rfl, rfl, rfl⟩⟩
  · rw [if_pos hr, if_neg (show ¬ ok = 0 by omega)]
    rw [ea] at ht
    have hn := ht.1
    have hd0 : (nn.toNat : Int) = nn := by omega
    have hd1 : nn.toNat < zi_fu := Nat.lt_of_le_of_lt (show nn.toNat ≤ 12 by omega) (by decide)
    obtain ⟨g3', g4', e4, e5⟩ := yt_cp_l ht nn.toNat 0 0 fr to zi_fu (by omega) (by decide) hd1 z24_0 (fun b => by
      rw [zb_0]
      exact ⟨fun h => (by cases h), fun ⟨i, _, _, _⟩ => (by omega)⟩) (fun i _ _ => by omega)
    rw [e4, zl_b]
    exact ⟨r, 0, 0, a, b, cc, 5, 2, p', x, nn, flt', nn, b, s1', s2', g3', g4', rfl, by rw [er], pp, .inr ⟨rfl, rfl, ea.symm, rfl, by rw [ea]; exact yk_tl_cg ht e5⟩⟩
end YTE
end
