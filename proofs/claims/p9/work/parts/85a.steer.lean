/-! Ways over the sea, and one hour by a star: alike on both sides. -/
def yk_sea (ts : Int) (gp gl m : Int → Int) : Prop := zl_rel ts gp gl m ∧ ∀ s, 0 ≤ s → s < 6 → 0 ≤ gp s ∧ gp s < 288
def yg_ld (gl : Int → Int) (p : Int) : Bool := zi_tb (gl (p / 24)) (p % 24)
def yg_go (p how : Int) : Int := if how = 1 then 24 * (p / 24) + (p % 24 + 1) % 24 else if how = 2 then 24 * (p / 24) + (p % 24 + 23) % 24 else if how = 3 then (if p / 24 = 11 then -1 else p + 24) else if how = 4 then (if p / 24 = 0 then -1 else p - 24) else p
theorem yg_go_in {p how : Int} (h1 : 0 ≤ p) (h2 : p < 288) : -1 ≤ yg_go p how ∧ yg_go p how < 288 := by
  unfold yg_go
  (repeat' split) <;> omega
section YSE
variable {ts p how : Int} {gp gl m : Int → Int}
theorem ze_isLandX (k : yk_sea ts gp gl m) (h1 : 0 ≤ p) (h2 : p < 288) : zf_Sea_isLand p gl = some (if yg_ld gl p = true then 1 else 0) := by
  obtain ⟨⟨-, -, -, -, hr, -⟩, -⟩ := k
  have hy := hr (p / 24) (by omega) (by omega)
  unfold zf_Sea_isLand yg_ld
  rw [ze_X_rowOf h1 h2, zl_b, zl_ci (by omega) (by omega), ze_X_columnOf h1 h2, zl_b]
  obtain ⟨c1, c2⟩ := zs_b01 (t := gl (p / 24)) (i := p % 24) hy.1 (by omega) (by omega) (by omega)
  by_cases h : zi_tb (gl (p / 24)) (p % 24) = true
  · rw [c1 h, if_neg (by decide), if_pos h]
  · rw [c2 h, if_pos rfl, if_neg h]
theorem ze_isLandM (k : yk_sea ts gp gl m) (h1 : 0 ≤ p) (h2 : p < 288) : zf_M_isLand p m = some (if yg_ld gl p = true then 1 else 0) := by
  obtain ⟨⟨-, -, -, -, -, hl⟩, -⟩ := k
  have hp := hl (p % 24) (p / 24) (by omega) (by omega) (by omega) (by omega)
  rw [show 134 + (24 * (p / 24) + p % 24) = 134 + p by omega] at hp
  unfold zf_M_isLand yg_ld
  rw [zi_w_id (x := 134 + p) (by omega) (by omega), zl_ci (by omega) (by omega), hp]
  by_cases h : zi_tb (gl (p / 24)) (p % 24) = true
  · rw [if_pos h, if_pos rfl]
  · rw [if_neg h, if_neg (by decide)]
theorem ze_goesTo (h1 : 0 ≤ p) (h2 : p < 288) : zf_M_goesTo p how = some (yg_go p how) := by
  have e1 : zi_div p 24 = p / 24 := zi_div_eq h1 (by omega) (by decide) (by decide)
  have e2 : zi_rem p 24 = p % 24 := zi_rem_eq h1 (by omega) (by decide) (by decide)
  unfold zf_M_goesTo yg_go
  rw [e1, e2, zi_w_id (x := 24 * (p / 24)) (by omega) (by omega), zi_w_id (x := p % 24 + 1) (by omega) (by omega), zi_w_id (x := p % 24 + 24) (by omega) (by omega), zi_w_id (x := p % 24 + 24 - 1) (by omega) (by omega), zi_w_id (x := p / 24 + 1) (by omega) (by omega), zi_w_id (x := p / 24 - 1) (by omega) (by omega), zi_rem_eq (a := p % 24 + 1) (by omega) (by omega) (by decide) (by decide), zi_rem_eq (a := p % 24 + 24 - 1) (by omega) (by omega) (by decide) (by decide)]
  rw [zi_w_id (x := 24 * (p / 24) + (p % 24 + 1) % 24) (by omega) (by omega), zi_w_id (x := 24 * (p / 24) + (p % 24 + 24 - 1) % 24) (by omega) (by omega), zi_w_id (x := 24 * (p / 24 + 1)) (by omega) (by omega), zi_w_id (x := 24 * (p / 24 + 1) + p % 24) (by omega) (by omega), zi_w_id (x := 24 * (p / 24 - 1)) (by omega) (by omega), zi_w_id (x := 24 * (p / 24 - 1) + p % 24) (by omega) (by omega), zi_w_id (x := 24 * (p / 24) + p % 24) (by omega) (by omega)]
  by_cases a1 : how = 1
  · rw [if_pos a1, if_pos a1, if_neg (by omega), if_pos (by omega)]
  rw [if_neg a1, if_neg a1]
  by_cases a2 : how = 2
  · rw [if_pos a2, if_pos a2, if_neg (by omega), if_pos (by omega), show p % 24 + 24 - 1 = p % 24 + 23 by omega]
  rw [if_neg a2, if_neg a2]
  by_cases a3 : how = 3
  · rw [if_pos a3, if_pos a3, if_neg (by omega)]
    by_cases h11 : p / 24 = 11
    · rw [if_pos h11, if_neg (by omega)]
    · rw [if_neg h11, if_pos (by omega), show 24 * (p / 24 + 1) + p % 24 = p + 24 by omega]
  rw [if_neg a3, if_neg a3]
  by_cases a4 : how = 4
  · rw [if_pos a4, if_pos a4]
    by_cases h0 : p / 24 = 0
    · rw [if_pos h0, if_pos (by omega)]
    · rw [if_neg h0, if_neg (by omega), if_pos (by omega), show 24 * (p / 24 - 1) + p % 24 = p - 24 by omega]
  rw [if_neg a4, if_neg a4, if_neg (by omega), if_pos (by omega), show 24 * (p / 24) + p % 24 = p by omega]
/-- the end of goFrom, at a place -/
theorem ze_goEnd (k : yk_sea ts gp gl m) {x y : Int} : ((zf_X_isPlace x y).bind fun r4 => (if r4 = 0 then (some (-1)) else ((zf_X_placeOf x y).bind fun r6 => ((zf_Sea_isLand r6 gl).bind fun r7 => (if r7 = 0 then ((zf_X_placeOf x y).bind fun r9 => (some r9)) else (some (-1 : Int))))))) = some (if zs_pl x y = 0 ∨ yg_ld gl (24 * y + x) = true then -1 else 24 * y + x) := by
  rw [ze_X_isPlace, zl_b]
  by_cases h : zs_pl x y = 0
  · rw [if_pos h, if_pos (Or.inl h)]
  · obtain ⟨x1, x2, y1, y2⟩ := zs_pl_ne h
    rw [if_neg h, ze_X_placeOf x1 x2 y1 y2, zl_b, ze_isLandX k (by omega) (by omega), zl_b]
    by_cases hl : yg_ld gl (24 * y + x) = true
    · rw [if_pos hl, if_neg (by decide), if_pos (Or.inr hl)]
    · rw [if_neg hl, if_pos rfl, zl_b, if_neg (fun hh => hh.elim h hl)]
theorem zs_pl1 {x y : Int} (h : 0 ≤ x ∧ x < 24 ∧ 0 ≤ y ∧ y < 12) : ¬ zs_pl x y = 0 := by
  unfold zs_pl
  rw [if_pos h]; decide
theorem zs_pl0 {x y : Int} (h : ¬ (0 ≤ x ∧ x < 24 ∧ 0 ≤ y ∧ y < 12)) : zs_pl x y = 0 := by
  unfold zs_pl
  rw [if_neg h]
theorem ze_goFrom (k : yk_sea ts gp gl m) (h1 : 0 ≤ p) (h2 : p < 288) : zf_Sea_goFrom p how gl = some (if yg_go p how = -1 ∨ yg_ld gl (yg_go p how) = true then -1 else yg_go p how) := by
  unfold zf_Sea_goFrom
  rw [ze_X_columnOf h1 h2, ze_X_rowOf h1 h2, zl_b, zl_b, zi_w_id (x := p % 24 + 1) (by omega) (by omega), zi_w_id (x := p % 24 + 24) (by omega) (by omega), zi_w_id (x := p % 24 + 24 - 1) (by omega) (by omega), zi_w_id (x := p / 24 + 1) (by omega) (by omega), zi_w_id (x := p / 24 + -1) (by omega) (by omega), zi_rem_eq (a := p % 24 + 1) (by omega) (by omega) (by decide) (by decide), zi_rem_eq (a := p % 24 + 24 - 1) (by omega) (by omega) (by decide) (by decide)]
  rw [ze_goEnd k, ze_goEnd k, ze_goEnd k, ze_goEnd k, ze_goEnd k]
  unfold yg_go
  by_cases a1 : how = 1
  · rw [if_pos a1, if_pos a1]
    have n1 : ¬ (24 * (p / 24) + (p % 24 + 1) % 24 = -1) := by omega
    have n2 : ¬ zs_pl ((p % 24 + 1) % 24) (p / 24) = 0 := zs_pl1 (by omega)
    by_cases hl : yg_ld gl (24 * (p / 24) + (p % 24 + 1) % 24) = true
    · rw [if_pos (Or.inr hl), if_pos (Or.inr hl)]
    · rw [if_neg (fun hh => hh.elim n2 hl), if_neg (fun hh => hh.elim n1 hl)]
  rw [if_neg a1, if_neg a1]
  by_cases a2 : how = 2
  · rw [if_pos a2, if_pos a2, show p % 24 + 24 - 1 = p % 24 + 23 by omega]
    have n1 : ¬ (24 * (p / 24) + (p % 24 + 23) % 24 = -1) := by omega
    have n2 : ¬ zs_pl ((p % 24 + 23) % 24) (p / 24) = 0 := zs_pl1 (by omega)
    by_cases hl : yg_ld gl (24 * (p / 24) + (p % 24 + 23) % 24) = true
    · rw [if_pos (Or.inr hl), if_pos (Or.inr hl)]
    · rw [if_neg (fun hh => hh.elim n2 hl), if_neg (fun hh => hh.elim n1 hl)]
  rw [if_neg a2, if_neg a2]
  by_cases a3 : how = 3
  · rw [if_pos a3, if_pos a3]
    by_cases h11 : p / 24 = 11
    · rw [if_pos h11, if_pos (Or.inl (zs_pl0 (by omega))), if_pos (Or.inl rfl)]
    · rw [if_neg h11, show 24 * (p / 24 + 1) + p % 24 = p + 24 by omega]
      have n2 : ¬ zs_pl (p % 24) (p / 24 + 1) = 0 := zs_pl1 (by omega)
      by_cases hl : yg_ld gl (p + 24) = true
      · rw [if_pos (Or.inr hl), if_pos (Or.inr hl)]
      · rw [if_neg (fun hh => hh.elim n2 hl), if_neg (fun hh => hh.elim (fun e => by omega) hl)]
  rw [if_neg a3, if_neg a3]
  by_cases a4 : how = 4
  · rw [if_pos a4, if_pos a4]
    by_cases h0 : p / 24 = 0
    · rw [if_pos h0, if_pos (Or.inl (zs_pl0 (by omega))), if_pos (Or.inl rfl)]
    · rw [if_neg h0, show 24 * (p / 24 + -1) + p % 24 = p - 24 by omega]
      have n2 : ¬ zs_pl (p % 24) (p / 24 + -1) = 0 := zs_pl1 (by omega)
      by_cases hl : yg_ld gl (p - 24) = true
      · rw [if_pos (Or.inr hl), if_pos (Or.inr hl)]
      · rw [if_neg (fun hh => hh.elim n2 hl), if_neg (fun hh => hh.elim (fun e => by omega) hl)]
  rw [if_neg a4, if_neg a4, show 24 * (p / 24) + p % 24 = p by omega]
  have n2 : ¬ zs_pl (p % 24) (p / 24) = 0 := zs_pl1 (by omega)
  by_cases hl : yg_ld gl p = true
  · rw [if_pos (Or.inr hl), if_pos (Or.inr hl)]
  · rw [if_neg (fun hh => hh.elim n2 hl), if_neg (fun hh => hh.elim (fun e => by omega) hl)]
end YSE
/-- where one goes, a star being so far to the right, and up -/
def yg_st (gl : Int → Int) (p r up : Int) : Int := if yg_ab r < yg_ab up then (if yg_ld gl (p + 24 * (if 0 < up then 1 else if up < 0 then -1 else 0)) = true then p else p + 24 * (if 0 < up then 1 else if up < 0 then -1 else 0)) else (if yg_ld gl (24 * (p / 24) + (p % 24 + (if 0 < r then 1 else if r < 0 then -1 else 0) + 24) % 24) = true then p else 24 * (p / 24) + (p % 24 + (if 0 < r then 1 else if r < 0 then -1 else 0) + 24) % 24)
section YST
variable {L : zLW} {K V kd fr hf to C mk mf mh mt : Int → Int} {nc tS tL sP lP mc : Int} {t h u cl sc sr ch ts p i : Int} {co ro br wc wr m gp gl : Int → Int}
theorem ym_steersFrom (R : yl_R L K V nc tS tL sP lP kd fr hf to mc C mk mf mh mt) (k : yk_sky t h u cl sc sr ch co ro br wc wr m) (z : yk_sea ts gp gl m) (p1 : 0 ≤ p) (p2 : p < 288) (i1 : 0 ≤ i) (i2 : i < 24) (hti : zb t i.toNat = true) {g S : Int → Int} :
    ∃ g' S', zf_M_steersFrom p i mc m mk g mh mt C S = some ((if yv_see L tS h u cl sc sr co ro br (p % 24) (p / 24) i = true then yg_st gl p (yg_tr (p % 24) (yv_st h co i)) (ro i - p / 24) else p), g', S') := by
  obtain ⟨g', S', e1⟩ := ym_isSeen (x := p % 24) (y := p / 24) (g := g) (S := S) R k i1 i2 hti (by omega) (by omega) (by omega) (by omega)
  rw [show 24 * (p / 24) + p % 24 = p by omega] at e1
  obtain ⟨⟨ht, k126⟩, ⟨⟨h1, h2⟩, k128⟩, k129, -, -, -, -, ki⟩ := k
  obtain ⟨⟨⟨c1, c2⟩, ⟨r1, r2⟩, -⟩, -, e⟩ := ki i i1 i2
  obtain ⟨ea, eb, -⟩ := e hti
  have hst := yv_st_in (h := h) (co := co) (i := i)
  have est : (m i + m 128) % 24 = yv_st h co i := by rw [ea, k128]; rfl
  have ed : zi_div p 24 = p / 24 := zi_div_eq p1 (by omega) (by decide) (by decide)
  have em : zi_rem p 24 = p % 24 := zi_rem_eq p1 (by omega) (by decide) (by decide)
  obtain ⟨t1, t2, t3, t4⟩ := ze_toRight (a := p % 24) (b := yv_st h co i) (by omega) (by omega) hst.1 hst.2
  refine ⟨g', S', ?_⟩
  unfold zf_M_steersFrom
  rw [e1, zl_b]
  by_cases hs : yv_see L tS h u cl sc sr co ro br (p % 24) (p / 24) i = true
  · rw [if_pos hs, if_neg (show ¬ (1 : Int) = 0 by decide), if_pos hs, ze_M_standsAt i1 i2 (by omega) (by omega) (by omega) (by omega), zl_b, est, em, ed, t1, zl_b, zi_w_id (x := 24 + i) (by omega) (by omega), zl_ci (by omega) (by omega), ze_M_size2 (by omega) (by omega), zl_b, eb, zi_w_id (x := ro i - p / 24) (by omega) (by omega), ze_M_size2 (by omega) (by omega), zl_b, ze_M_sign, zl_b, ze_M_sign, zl_b]
    unfold yg_st
    generalize hr : yg_tr (p % 24) (yv_st h co i) = r at t2 t3 ⊢
    generalize hup : ro i - p / 24 = up
    by_cases hc : yg_ab r < yg_ab up
    · rw [if_pos hc, if_pos hc]
      have hab := yg_ab_in (a := up)
      have hab2 := yg_ab_in (a := r)
      have hsg : ∃ s, (if 0 < up then (1 : Int) else if up < 0 then -1 else 0) = s ∧ ((s = 1 ∧ 0 < up) ∨ (s = -1 ∧ up < 0)) := by
        by_cases u1 : 0 < up
        · exact ⟨1, if_pos u1, Or.inl ⟨rfl, u1⟩⟩
        · refine ⟨-1, by rw [if_neg u1, if_pos (by omega)], Or.inr ⟨rfl, by omega⟩⟩
      obtain ⟨s, es, hs2⟩ := hsg
      have hin : 0 ≤ p + 24 * s ∧ p + 24 * s < 288 := by omega
      rw [es, zi_w_id (x := 24 * s) (by omega) (by omega), zi_w_id (x := p + 24 * s) (by omega) (by omega), ze_isLandM z hin.1 hin.2, zl_b]
      by_cases hl : yg_ld gl (p + 24 * s) = true
      · rw [if_pos hl, if_pos hl, if_neg (show ¬ (1 : Int) = 0 by decide)]
      · rw [if_neg hl, if_neg hl, if_pos rfl]
    · rw [if_neg hc, if_neg hc]
      have hsg : ∃ s, (if 0 < r then (1 : Int) else if r < 0 then -1 else 0) = s ∧ -1 ≤ s ∧ s ≤ 1 := ⟨_, rfl, by (repeat' split) <;> omega, by (repeat' split) <;> omega⟩
      obtain ⟨s, es, hs2, hs3⟩ := hsg
      rw [es, zi_w_id (x := 24 * (p / 24)) (by omega) (by omega), zi_w_id (x := p % 24 + s) (by omega) (by omega), zi_w_id (x := p % 24 + s + 24) (by omega) (by omega), zi_rem_eq (a := p % 24 + s + 24) (by omega) (by omega) (by decide) (by decide), zi_w_id (x := 24 * (p / 24) + (p % 24 + s + 24) % 24) (by omega) (by omega), ze_isLandM z (by omega) (by omega), zl_b]
      by_cases hl : yg_ld gl (24 * (p / 24) + (p % 24 + s + 24) % 24) = true
      · rw [if_pos hl, if_pos hl, if_neg (show ¬ (1 : Int) = 0 by decide)]
      · rw [if_neg hl, if_neg hl, if_pos rfl]
  · rw [if_neg hs, if_pos rfl, if_neg hs]
theorem yg_st_in {r up : Int} (p1 : 0 ≤ p) (p2 : p < 288) (u1 : 0 ≤ up + p / 24) (u2 : up + p / 24 ≤ 11) : 0 ≤ yg_st gl p r up ∧ yg_st gl p r up < 288 := by
  have key : ∀ s : Int, ((s = 1 ∧ 0 < up) ∨ (s = -1 ∧ up < 0) ∨ s = 0) → 0 ≤ p + 24 * s ∧ p + 24 * s < 288 := fun s hs => by omega
  unfold yg_st
  by_cases hc : yg_ab r < yg_ab up
  · rw [if_pos hc]
    have := key (if 0 < up then 1 else if up < 0 then -1 else 0) (by (repeat' split) <;> omega)
    split <;> omega
  · rw [if_neg hc]
    split <;> omega
end YST
