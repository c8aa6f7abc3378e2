/-! The stars that lines lead to. -/
def yg_E (G : Int → Int) (u v : Int) (p q : Nat) : Bool := zb (G p) q && !(decide ((p : Int) = u ∧ (q : Int) = v) || decide ((p : Int) = v ∧ (q : Int) = u))
def yg_sh (E : Nat → Nat → Bool) (S : Nat → Bool) : Prop := ∀ p q, p < 24 → q < 24 → S p = true → E p q = true → S q = true
def yg_re (E : Nat → Nat → Bool) (a : Nat) (s : Int) : Prop := z24 s ∧ zb s a = true ∧ yg_sh E (zb s) ∧ ∀ S : Nat → Bool, S a = true → yg_sh E S → ∀ j, j < 24 → zb s j = true → S j = true
theorem yg_re_eq {E : Nat → Nat → Bool} {a : Nat} {s s2 : Int} (h : yg_re E a s) (k : yg_re E a s2) : s = s2 := by
  refine z24_ext h.1 k.1 fun j hj => ?_
  have x := h.2.2.2 (zb s2) k.2.1 k.2.2.1 j hj
  have y := k.2.2.2 (zb s) h.2.1 h.2.2.1 j hj
  cases a : zb s j <;> cases b : zb s2 j
  · rfl
  · rw [a] at y; exact absurd (y b) (by decide)
  · rw [b] at x; exact absurd (x a) (by decide)
  · rfl
section YRE
variable {G : Int → Int} {u v : Int} {a : Nat}
theorem yg_step {fo td row : Int} {E : Nat → Nat → Bool} {r : Nat} (r1 : r < 24) (hr : zb td r = true) (zf : z24 fo) (zt : z24 td) (zr : z24 row) (hrow : ∀ q, q < 24 → zb row q = E r q)
    (sub : ∀ j, zb td j = true → zb fo j = true) (ha : zb fo a = true) (hm : ∀ S : Nat → Bool, S a = true → yg_sh E S → ∀ j, j < 24 → zb fo j = true → S j = true)
    (hc : ∀ p q, p < 24 → q < 24 → zb fo p = true → ¬ zb td p = true → E p q = true → zb fo q = true) {i : Int} (hi : yn_n (fun j => zb fo j && !zb td j) 24 = i) {fo2 td2 : Int} (ef : fo2 = zi_or fo row) (et : td2 = zi_and (zi_or td (zi_and row (zi_xor fo (-1)))) (zi_xor (zi_shl 1 r) (-1))) :
    z24 fo2 ∧ z24 td2 ∧ (∀ j, zb td2 j = true → zb fo2 j = true) ∧ zb fo2 a = true ∧ (∀ S : Nat → Bool, S a = true → yg_sh E S → ∀ j, j < 24 → zb fo2 j = true → S j = true) ∧
      (∀ p q, p < 24 → q < 24 → zb fo2 p = true → ¬ zb td2 p = true → E p q = true → zb fo2 q = true) ∧ yn_n (fun j => zb fo2 j && !zb td2 j) 24 = i + 1 := by
  have bf : ∀ j, zb fo2 j = (zb fo j || zb row j) := fun j => by rw [ef, zb_or]
  have bt : ∀ j, j < 24 → zb td2 j = ((zb td j || (zb row j && !zb fo j)) && !decide (j = r)) := fun j hj => by
    rw [et, zb_and, zb_or, zb_and, zb_not (by omega), zb_not (by omega), zb_shl (by omega) (by omega), Int.toNat_natCast]
  have z2 : z24 td2 := by rw [et]; exact z24_and (z24_or zt (z24_and zr))
  have zf2 : z24 fo2 := by rw [ef]; exact z24_or zf zr
  refine ⟨zf2, z2, fun j hj => ?_, by rw [bf, ha, Bool.true_or], fun S sa sc j hj hb => ?_, fun p q hp hq fp tp he => ?_, ?_⟩
  · by_cases h24 : j < 24
    · rw [bt j h24, Bool.and_eq_true, Bool.or_eq_true, Bool.and_eq_true] at hj
      rw [bf]
      rcases hj.1 with h | h
      · rw [sub j h, Bool.true_or]
      · rw [h.1, Bool.or_true]
    · rw [z24_b z2 (by omega)] at hj; cases hj
  · rw [bf, Bool.or_eq_true] at hb
    rcases hb with h | h
    · exact hm S sa sc j hj h
    · exact sc r j r1 hj (hm S sa sc r r1 (sub r hr)) (by rw [← hrow j hj]; exact h)
  · rw [bt p hp] at tp
    rw [bf] at fp ⊢
    by_cases e : p = r
    · subst e
      rw [hrow q hq, he, Bool.or_true]
    · rw [decide_eq_false e] at tp
      have : zb fo p = true ∧ ¬ zb td p = true := by
        cases x : zb fo p <;> cases y : zb td p <;> cases w : zb row p <;> rw [x, w] at fp <;> rw [x, y, w] at tp <;> first | exact ⟨rfl, by decide⟩ | exact absurd rfl tp | exact absurd fp (by decide) | skip
      rw [hc p q hp hq this.1 this.2 he, Bool.true_or]
  · rw [← hi]
    refine yn_add (k := r) ?_ ?_ 24 r1 fun j hj hn => ?_
    · show (zb fo r && !zb td r) = false
      rw [hr]; cases zb fo r <;> rfl
    · show (zb fo2 r && !zb td2 r) = true
      rw [bf, bt r r1, sub r hr, decide_eq_true (rfl : r = r)]
      cases zb td r <;> cases zb row r <;> rfl
    · show (zb fo j && !zb td j) = (zb fo2 j && !zb td2 j)
      rw [bf, bt j hj, decide_eq_false hn]
      have s := sub j
      cases x : zb fo j <;> cases y : zb td j <;> cases w : zb row j <;> first | rfl | (rw [x, y] at s; exact absurd (s rfl) (by decide))
theorem yx_reach_l (hG : ∀ j : Nat, j < 24 → z24 (G j)) (huv : (u = -1 ∧ v = -1) ∨ (0 ≤ u ∧ u < 24 ∧ 0 ≤ v ∧ v < 24)) : ∀ (d : Nat) (fo td i : Int) (n : Nat), i + d = 24 → 0 ≤ i → d < n → z24 fo → z24 td → (∀ j, zb td j = true → zb fo j = true) → zb fo a = true → (∀ S : Nat → Bool, S a = true → yg_sh (yg_E G u v) S → ∀ j, j < 24 → zb fo j = true → S j = true) →
    (∀ p q, p < 24 → q < 24 → zb fo p = true → ¬ zb td p = true → yg_E G u v p q = true → zb fo q = true) → yn_n (fun j => zb fo j && !zb td j) 24 = i → ∃ s, zf_View_reach_l0 u v G n fo td i = some s ∧ yg_re (yg_E G u v) a s := by
  intro d
  induction d with
  | zero =>
    intro fo td i n e i0 hn zf zt sub ha hm hc hi
    obtain ⟨n, rfl⟩ : ∃ q, n = q + 1 := ⟨n - 1, by omega⟩
    refine ⟨fo, ?_, zf, ha, fun p q hp hq fp he => ?_, hm⟩
    · show zf_View_reach_l0_b u v G (zf_View_reach_l0 u v G n) fo td i = _
      unfold zf_View_reach_l0_b
      rw [if_neg (by omega)]
    · have := yn_all 24 (by rw [hi]; omega) p hp
      refine hc p q hp hq fp (fun w => ?_) he
      have this : (zb fo p && !zb td p) = true := this
      rw [w, fp] at this
      cases this
  | succ d ih =>
    intro fo td i n e i0 hn zf zt sub ha hm hc hi
    obtain ⟨n, rfl⟩ : ∃ q, n = q + 1 := ⟨n - 1, by omega⟩
    show ∃ s, zf_View_reach_l0_b u v G (zf_View_reach_l0 u v G n) fo td i = _ ∧ _
    unfold zf_View_reach_l0_b
    rw [if_pos (by omega)]
    by_cases t0 : td = 0
    · rw [if_pos t0]
      refine ⟨fo, rfl, zf, ha, fun p q hp hq fp he => hc p q hp hq fp (by rw [t0, zb_0]; decide) he, hm⟩
    rw [if_neg t0]
    obtain ⟨r, r1, r2, r3⟩ := ze_lowest zt t0
    rw [r3, zl_b, zl_ci (by omega) (by omega), zi_w_id (x := i + 1) (by omega) (by omega)]
    have bit : ∀ w : Int, 0 ≤ w → w < 24 → ∀ q, q < 24 → zb (zi_and (G r) (zi_xor (zi_shl 1 w) (-1))) q = (zb (G r) q && !decide (q = w.toNat)) := fun w w1 w2 q hq => by
      rw [zb_and, zb_not (by omega), zb_shl w1 (by omega)]
    have fin : ∀ row fo2 td2 : Int, z24 row → (∀ q, q < 24 → zb row q = yg_E G u v r q) → fo2 = zi_or fo row → td2 = zi_and (zi_or td (zi_and row (zi_xor fo (-1)))) (zi_xor (zi_shl 1 r) (-1)) → ∃ s, zf_View_reach_l0 u v G n fo2 td2 (i + 1) = some s ∧ yg_re (yg_E G u v) a s := fun row fo2 td2 zr hrow ef et => by
      obtain ⟨a1, a2, a3, a4, a5, a6, a7⟩ := yg_step r1 r2 zf zt zr hrow sub ha hm hc hi ef et
      exact ih fo2 td2 (i + 1) n (by omega) (by omega) (by omega) a1 a2 a3 a4 a5 a6 a7
    by_cases c1 : (r : Int) = u
    · rw [if_pos c1]
      refine fin _ _ _ (z24_and (hG r r1)) (fun q hq => ?_) rfl rfl
      rw [bit v (by omega) (by omega) q hq]
      unfold yg_E
      by_cases e1 : q = v.toNat
      · rw [decide_eq_true e1, decide_eq_true (show (r : Int) = u ∧ (q : Int) = v by omega)]; simp
      · rw [decide_eq_false e1, decide_eq_false (show ¬ ((r : Int) = u ∧ (q : Int) = v) by omega)]
        by_cases e2 : (r : Int) = v ∧ (q : Int) = u
        · exact absurd e1 (by omega)
        · rw [decide_eq_false e2]; rfl
    rw [if_neg c1]
    by_cases c2 : (r : Int) = v
    · rw [if_pos c2]
      refine fin _ _ _ (z24_and (hG r r1)) (fun q hq => ?_) rfl rfl
      rw [bit u (by omega) (by omega) q hq]
      unfold yg_E
      rw [decide_eq_false (show ¬ ((r : Int) = u ∧ (q : Int) = v) by omega), Bool.false_or]
      by_cases e1 : q = u.toNat
      · rw [decide_eq_true e1, decide_eq_true (show (r : Int) = v ∧ (q : Int) = u by omega)]
      · rw [decide_eq_false e1, decide_eq_false (show ¬ ((r : Int) = v ∧ (q : Int) = u) by omega)]
    rw [if_neg c2]
    refine fin _ _ _ (hG r r1) (fun q hq => ?_) rfl rfl
    unfold yg_E
    rw [decide_eq_false (show ¬ ((r : Int) = u ∧ (q : Int) = v) by omega), decide_eq_false (show ¬ ((r : Int) = v ∧ (q : Int) = u) by omega)]
    simp
theorem yx_reach (hG : ∀ j : Nat, j < 24 → z24 (G j)) (huv : (u = -1 ∧ v = -1) ∨ (0 ≤ u ∧ u < 24 ∧ 0 ≤ v ∧ v < 24)) {x : Int} (x1 : 0 ≤ x) (x2 : x < 24) : ∃ s, zf_View_reach x u v G = some s ∧ yg_re (yg_E G u v) x.toNat s := by
  have bx : ∀ j, zb (zi_shl 1 x) j = decide (j = x.toNat) := fun j => zb_shl x1 (by omega)
  obtain ⟨s, e, h⟩ := yx_reach_l (a := x.toNat) hG huv 24 (zi_shl 1 x) (zi_shl 1 x) 0 zi_fu (by decide) (by decide) (by decide) (z24_shl x1 x2) (z24_shl x1 x2) (fun j h => h) (by rw [bx]; exact decide_eq_true rfl) (fun S sa _ j _ hj => by
    rw [bx, decide_eq_true_eq] at hj
    rw [hj]; exact sa) (fun p q _ _ fp tp => absurd fp tp) (by
    have : (fun j => zb (zi_shl 1 x) j && !zb (zi_shl 1 x) j) = fun _ => false := funext fun j => by cases zb (zi_shl 1 x) j <;> rfl
    rw [this]; decide)
  refine ⟨s, ?_, h⟩
  unfold zf_View_reach
  rw [e, zl_b]
end YRE
