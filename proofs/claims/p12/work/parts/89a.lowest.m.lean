/-! 89a.lowest, 89b.reach, 89c.figure, 89d.skies, 89e.holding, 89f.sky, 89g.sky, 90a.shared, 90b.both, 90c.log -/
section
/-! How many are in a set; the lowest of a set. -/
def yn_n (f : Nat → Bool) : Nat → Int
  | 0 => 0
  | n + 1 => yn_n f n + (if f n = true then 1 else 0)
section YLO
theorem yn_in {f : Nat → Bool} : ∀ n : Nat, 0 ≤ yn_n f n ∧ yn_n f n ≤ n
  | 0 => ⟨Int.le_refl _, Int.le_refl _⟩
  | n + 1 => by
    have := yn_in (f := f) n
    show 0 ≤ yn_n f n + (if f n = true then 1 else 0) ∧ yn_n f n + (if f n = true then 1 else 0) ≤ ((n + 1 : Nat) : Int)
    split <;> omega
theorem yn_eq {f g : Nat → Bool} : ∀ n : Nat, (∀ j, j < n → f j = g j) → yn_n f n = yn_n g n
  | 0, _ => rfl
  | n + 1, h => by
    show yn_n f n + (if f n = true then 1 else 0) = yn_n g n + (if g n = true then 1 else 0)
    rw [yn_eq n fun j hj => h j (by omega), h n (by omega)]
theorem yn_le {f g : Nat → Bool} : ∀ n : Nat, (∀ j, j < n → f j = true → g j = true) → yn_n f n ≤ yn_n g n
  | 0, _ => Int.le_refl _
  | n + 1, h => by
    show yn_n f n + (if f n = true then 1 else 0) ≤ yn_n g n + (if g n = true then 1 else 0)
    have a := yn_le n fun j hj => h j (by omega)
    have b := h n (by omega)
    by_cases c : f n = true
    · rw [if_pos c, if_pos (b c)]; omega
    · rw [if_neg c]; split <;> omega
theorem yn_lt {f g : Nat → Bool} {k : Nat} (fk : ¬ f k = true) (gk : g k = true) : ∀ n : Nat, k < n → (∀ j, j < n → f j = true → g j = true) → yn_n f n + 1 ≤ yn_n g n
  | 0, hk, _ => by omega
  | n + 1, hk, h => by
    show yn_n f n + (if f n = true then 1 else 0) + 1 ≤ yn_n g n + (if g n = true then 1 else 0)
    by_cases e : k = n
    · subst e
      have a := yn_le k fun j hj => h j (by omega)
      rw [if_neg fk, if_pos gk]; omega
    · have a := yn_lt fk gk n (by omega) fun j hj => h j (by omega)
      have b := h n (by omega)
      by_cases c : f n = true
      · rw [if_pos c, if_pos (b c)]; omega
      · rw [if_neg c]; split <;> omega
theorem yn_add {f g : Nat → Bool} {k : Nat} (fk : f k = false) (gk : g k = true) : ∀ n : Nat, k < n → (∀ j, j < n → j ≠ k → f j = g j) → yn_n g n = yn_n f n + 1
  | 0, hk, _ => by omega
  | n + 1, hk, h => by
    show yn_n g n + (if g n = true then 1 else 0) = yn_n f n + (if f n = true then 1 else 0) + 1
    by_cases e : k = n
    · subst e
      rw [yn_eq k fun j hj => h j (by omega) (by omega), fk, gk, if_pos rfl, if_neg (by decide)]; omega
    · rw [yn_add fk gk n (by omega) fun j hj => h j (by omega), h n (by omega) (fun q => e q.symm)]; omega
theorem yn_all {f : Nat → Bool} : ∀ n : Nat, yn_n f n = n → ∀ j, j < n → f j = true
  | 0, _, j, hj => by omega
  | n + 1, h, j, hj => by
    have h : yn_n f n + (if f n = true then 1 else 0) = ((n + 1 : Nat) : Int) := by rw [← h]; rfl
    have b := yn_in (f := f) n
    by_cases c : f n = true
    · rw [if_pos c] at h
      by_cases e : j = n
      · rw [e]; exact c
      · exact yn_all n (by omega) j (by omega)
    · rw [if_neg c] at h; omega
theorem yn_sum {t : Int} (h1 : 0 ≤ t) (h2 : t ≤ 2147483647) : ∀ n : Nat, zs_sum t n = yn_n (zb t) n
  | 0 => rfl
  | n + 1 => by
    show zs_sum t n + (if zi_tb t (n : Int) = true then 1 else 0) = yn_n (zb t) n + (if zb t n = true then 1 else 0)
    rw [yn_sum h1 h2 n, zb_tb2 h1 h2, Int.toNat_natCast]
theorem yn_low {f : Nat → Bool} : ∀ n : Nat, (∃ j, j < n ∧ f j = true) → ∃ r, r < n ∧ f r = true ∧ ∀ j, j < r → f j = false
  | 0, ⟨j, h, _⟩ => by omega
  | n + 1, ⟨j, h, hj⟩ => by
    by_cases q : ∃ j, j < n ∧ f j = true
    · obtain ⟨r, a, b, c⟩ := yn_low n q
      exact ⟨r, by omega, b, c⟩
    · have e : j = n := by
        by_cases e : j = n
        · exact e
        · exact absurd ⟨j, by omega, hj⟩ q
      subst e
      refine ⟨j, by omega, hj, fun i hi => ?_⟩
      cases c : f i
      · rfl
      · exact absurd ⟨i, hi, c⟩ q
theorem zb_neg {x : Int} (h1 : 0 ≤ x) (h2 : x ≤ 2147483647) {j : Nat} (hj : j < 32) : zb (zi_w (-x)) j = (zb x j ^^ decide (∃ i, i < j ∧ zb x i = true)) := by
  rw [zi_w_id (x := -x) (by omega) (by omega)]
  unfold zb
  have e : (Int32.ofInt (-x)).toBitVec = -(Int32.ofInt x).toBitVec := by
    rw [Int32.ofInt_neg]; rfl
  rw [e, BitVec.getLsbD_neg]
  simp [hj]
theorem ze_lowest {x : Int} (hx : z24 x) (h0 : x ≠ 0) : ∃ r : Nat, r < 24 ∧ zb x r = true ∧ zf_X_lowestOf x = some (r : Int) := by
  have hex : ∃ j, j < 24 ∧ zb x j = true := by
    by_cases q : ∃ j, j < 24 ∧ zb x j = true
    · exact q
    · refine absurd ((z24_z hx).mpr fun j hj => ?_) h0
      cases c : zb x j
      · rfl
      · exact absurd ⟨j, hj, c⟩ q
  obtain ⟨r, r1, r2, r3⟩ := yn_low 24 hex
  have hand : zi_and x (zi_w (-x)) = zi_shl 1 r := by
    refine z24_ext (z24_and hx) (z24_shl (by omega) (by omega)) fun j hj => ?_
    rw [zb_and, zb_neg hx.1 (by have := hx.2; omega) (by omega), zb_shl (by omega) (by omega), Int.toNat_natCast]
    by_cases e : j = r
    · subst e
      rw [r2, decide_eq_true (rfl : j = j)]
      have : ¬ ∃ i, i < j ∧ zb x i = true := fun ⟨i, a, b⟩ => by rw [r3 i a] at b; cases b
      rw [decide_eq_false this]; rfl
    · rw [decide_eq_false e]
      by_cases c : j < r
      · rw [r3 j c, Bool.false_and]
      · rw [decide_eq_true (⟨r, by omega, r2⟩ : ∃ i, i < j ∧ zb x i = true)]
        cases zb x j <;> rfl
  refine ⟨r, r1, r2, ?_⟩
  unfold zf_X_lowestOf
  have hd : ∀ k : Nat, k < 24 → zf_Integer_bitCount (zi_w (zi_shl 1 k - 1)) = some (k : Int) := by
    have hd2 : ∀ k : Nat, k < 24 → (0 ≤ zi_w (zi_shl 1 k - 1) ∧ zi_w (zi_shl 1 k - 1) < 16777216) ∧ zs_sum (zi_w (zi_shl 1 k - 1)) 24 = k := by decide +kernel
    intro k hk
    obtain ⟨⟨a, b⟩, c⟩ := hd2 k hk
    rw [ze_bitCount a b, c]
  rw [hand, hd r r1, zl_b]
end YLO
end
section
/-! The stars that lines lead to. -/
def yg_E (G : Int → Int) (u v : Int) (p q : Nat) : Bool := zb (G p) q && !(decide ((p : Int) = u ∧ (q : Int) = v) || decide ((p : Int) = v ∧ (q : Int) = u))
def yg_sh (E : Nat → Nat → Bool) (S : Nat → Bool) : Prop := ∀ p q, p < 24 → q < 24 → S p = true → E p q = true → S q = true
def yg_re (E : Nat → Nat → Bool) (a : Nat) (s : Int) : Prop := z24 s ∧ zb s a = true ∧ yg_sh E (zb s) ∧ ∀ S : Nat → Bool, S a = true → yg_sh E S → ∀ j, j < 24 → zb s j = true → S j = true
theorem yg_re_eq {E : Nat → Nat → Bool} {a : Nat} {s s2 : Int} (h : yg_re E a s) (k : yg_re E a s2) : s = s2 := by
  refine z24_ext h.1 k.1 fun j hj => ?_
  have x := h.2.2.2 (zb s2) k.2.1 k.2.2.1 j hj
  have y := k.2.2.2 (zb s) h.2.1 h.2.2.1 j hj
  cases a : zb s j <;> cases b : zb s2 j
  · rfl
  · rw [a] at y; exact absurd (y b) (by decide)
  · rw [b] at x; exact absurd (x a) (by decide)
  · rfl
section YRE
variable {G : Int → Int} {u v : Int} {a : Nat}
theorem yg_step {fo td row : Int} {E : Nat → Nat → Bool} {r : Nat} (r1 : r < 24) (hr : zb td r = true) (zf : z24 fo) (zt : z24 td) (zr : z24 row) (hrow : ∀ q, q < 24 → zb row q = E r q)
    (sub : ∀ j, zb td j = true → zb fo j = true) (ha : zb fo a = true) (hm : ∀ S : Nat → Bool, S a = true → yg_sh E S → ∀ j, j < 24 → zb fo j = true → S j = true)
    (hc : ∀ p q, p < 24 → q < 24 → zb fo p = true → ¬ zb td p = true → E p q = true → zb fo q = true) {i : Int} (hi : yn_n (fun j => zb fo j && !zb td j) 24 = i) {fo2 td2 : Int} (ef : fo2 = zi_or fo row) (et : td2 = zi_and (zi_or td (zi_and row (zi_xor fo (-1)))) (zi_xor (zi_shl 1 r) (-1))) :
    z24 fo2 ∧ z24 td2 ∧ (∀ j, zb td2 j = true → zb fo2 j = true) ∧ zb fo2 a = true ∧ (∀ S : Nat → Bool, S a = true → yg_sh E S → ∀ j, j < 24 → zb fo2 j = true → S j = true) ∧
      (∀ p q, p < 24 → q < 24 → zb fo2 p = true → ¬ zb td2 p = true → E p q = true → zb fo2 q = true) ∧ yn_n (fun j => zb fo2 j && !zb td2 j) 24 = i + 1 := by
  have bf : ∀ j, zb fo2 j = (zb fo j || zb row j) := fun j => by rw [ef, zb_or]
  have bt : ∀ j, j < 24 → zb td2 j = ((zb td j || (zb row j && !zb fo j)) && !decide (j = r)) := fun j hj => by
    rw [et, zb_and, zb_or, zb_and, zb_not (by omega), zb_not (by omega), zb_shl (by omega) (by omega), Int.toNat_natCast]
  have z2 : z24 td2 := by rw [et]; exact z24_and (z24_or zt (z24_and zr))
  have zf2 : z24 fo2 := by rw [ef]; exact z24_or zf zr
  refine ⟨zf2, z2, fun j hj => ?_, by rw [bf, ha, Bool.true_or], fun S sa sc j hj hb => ?_, fun p q hp hq fp tp he => ?_, ?_⟩
  · by_cases h24 : j < 24
    · rw [bt j h24, Bool.and_eq_true, Bool.or_eq_true, Bool.and_eq_true] at hj
      rw [bf]
      rcases hj.1 with h | h
      · rw [sub j h, Bool.true_or]
      · rw [h.1, Bool.or_true]
    · rw [z24_b z2 (by omega)] at hj; cases hj
  · rw [bf, Bool.or_eq_true] at hb
    rcases hb with h | h
    · exact hm S sa sc j hj h
    · exact sc r j r1 hj (hm S sa sc r r1 (sub r hr)) (by rw [← hrow j hj]; exact h)
  · rw [bt p hp] at tp
    rw [bf] at fp ⊢
    by_cases e : p = r
    · subst e
      rw [hrow q hq, he, Bool.or_true]
    · rw [decide_eq_false e] at tp
      have : zb fo p = true ∧ ¬ zb td p = true := by
        cases x : zb fo p <;> cases y : zb td p <;> cases w : zb row p <;> rw [x, w] at fp <;> rw [x, y, w] at tp <;> first | exact ⟨rfl, by decide⟩ | exact absurd rfl tp | exact absurd fp (by decide) | skip
      rw [hc p q hp hq this.1 this.2 he, Bool.true_or]
  · rw [← hi]
    refine yn_add (k := r) ?_ ?_ 24 r1 fun j hj hn => ?_
    · show (zb fo r && !zb td r) = false
      rw [hr]; cases zb fo r <;> rfl
    · show (zb fo2 r && !zb td2 r) = true
      rw [bf, bt r r1, sub r hr, decide_eq_true (rfl : r = r)]
      cases zb td r <;> cases zb row r <;> rfl
    · show (zb fo j && !zb td j) = (zb fo2 j && !zb td2 j)
      rw [bf, bt j hj, decide_eq_false hn]
      have s := sub j
      cases x : zb fo j <;> cases y : zb td j <;> cases w : zb row j <;> first | rfl | (rw [x, y] at s; exact absurd (s rfl) (by decide))
theorem yx_reach_l (hG : ∀ j : Nat, j < 24 → z24 (G j)) (huv : (u = -1 ∧ v = -1) ∨ (0 ≤ u ∧ u < 24 ∧ 0 ≤ v ∧ v < 24)) : ∀ (d : Nat) (fo td i : Int) (n : Nat), i + d = 24 → 0 ≤ i → d < n → z24 fo → z24 td → (∀ j, zb td j = true → zb fo j = true) → zb fo a = true → (∀ S : Nat → Bool, S a = true → yg_sh (yg_E G u v) S → ∀ j, j < 24 → zb fo j = true → S j = true) →
    (∀ p q, p < 24 → q < 24 → zb fo p = true → ¬ zb td p = true → yg_E G u v p q = true → zb fo q = true) → yn_n (fun j => zb fo j && !zb td j) 24 = i → ∃ s, zf_View_reach_l0 u v G n fo td i = some s ∧ yg_re (yg_E G u v) a s := by
  intro d
  induction d with
  | zero =>
    intro fo td i n e i0 hn zf zt sub ha hm hc hi
    obtain ⟨n, rfl⟩ : ∃ q, n = q + 1 := ⟨n - 1, by omega⟩
    refine ⟨fo, ?_, zf, ha, fun p q hp hq fp he => ?_, hm⟩
    · show zf_View_reach_l0_b u v G (zf_View_reach_l0 u v G n) fo td i = _
      unfold zf_View_reach_l0_b
      rw [if_neg (by omega)]
    · have := yn_all 24 (by rw [hi]; omega) p hp
      refine hc p q hp hq fp (fun w => ?_) he
      have this : (zb fo p && !zb td p) = true := this
      rw [w, fp] at this
      cases this
  | succ d ih =>
    intro fo td i n e i0 hn zf zt sub ha hm hc hi
    obtain ⟨n, rfl⟩ : ∃ q, n = q + 1 := ⟨n - 1, by omega⟩
    show ∃ s, zf_View_reach_l0_b u v G (zf_View_reach_l0 u v G n) fo td i = _ ∧ _
    unfold zf_View_reach_l0_b
    rw [if_pos (by omega)]
    by_cases t0 : td = 0
    · rw [if_pos t0]
      refine ⟨fo, rfl, zf, ha, fun p q hp hq fp he => hc p q hp hq fp (by rw [t0, zb_0]; decide) he, hm⟩
    rw [if_neg t0]
    obtain ⟨r, r1, r2, r3⟩ := ze_lowest zt t0
    rw [r3, zl_b, zl_ci (by omega) (by omega), zi_w_id (x := i + 1) (by omega) (by omega)]
    have bit : ∀ w : Int, 0 ≤ w → w < 24 → ∀ q, q < 24 → zb (zi_and (G r) (zi_xor (zi_shl 1 w) (-1))) q = (zb (G r) q && !decide (q = w.toNat)) := fun w w1 w2 q hq => by
      rw [zb_and, zb_not (by omega), zb_shl w1 (by omega)]
    have fin : ∀ row fo2 td2 : Int, z24 row → (∀ q, q < 24 → zb row q = yg_E G u v r q) → fo2 = zi_or fo row → td2 = zi_and (zi_or td (zi_and row (zi_xor fo (-1)))) (zi_xor (zi_shl 1 r) (-1)) → ∃ s, zf_View_reach_l0 u v G n fo2 td2 (i + 1) = some s ∧ yg_re (yg_E G u v) a s := fun row fo2 td2 zr hrow ef et => by
      obtain ⟨a1, a2, a3, a4, a5, a6, a7⟩ := yg_step r1 r2 zf zt zr hrow sub ha hm hc hi ef et
      exact ih fo2 td2 (i + 1) n (by omega) (by omega) (by omega) a1 a2 a3 a4 a5 a6 a7
    by_cases c1 : (r : Int) = u
    · rw [if_pos c1]
      refine fin _ _ _ (z24_and (hG r r1)) (fun q hq => ?_) rfl rfl
      rw [bit v (by omega) (by omega) q hq]
      unfold yg_E
      by_cases e1 : q = v.toNat
      · rw [decide_eq_true e1, decide_eq_true (show (r : Int) = u ∧ (q : Int) = v by omega)]; simp
      · rw [decide_eq_false e1, decide_eq_false (show ¬ ((r : Int) = u ∧ (q : Int) = v) by omega)]
        by_cases e2 : (r : Int) = v ∧ (q : Int) = u
        · exact absurd e1 (by omega)
        · rw [decide_eq_false e2]; rfl
    rw [if_neg c1]
    by_cases c2 : (r : Int) = v
    · rw [if_pos c2]
      refine fin _ _ _ (z24_and (hG r r1)) (fun q hq => ?_) rfl rfl
      rw [bit u (by omega) (by omega) q hq]
      unfold yg_E
      rw [decide_eq_false (show ¬ ((r : Int) = u ∧ (q : Int) = v) by omega), Bool.false_or]
      by_cases e1 : q = u.toNat
      · rw [decide_eq_true e1, decide_eq_true (show (r : Int) = v ∧ (q : Int) = u by omega)]
      · rw [decide_eq_false e1, decide_eq_false (show ¬ ((r : Int) = v ∧ (q : Int) = u) by omega)]
    rw [if_neg c2]
    refine fin _ _ _ (hG r r1) (fun q hq => ?_) rfl rfl
    unfold yg_E
    rw [decide_eq_false (show ¬ ((r : Int) = u ∧ (q : Int) = v) by omega), decide_eq_false (show ¬ ((r : Int) = v ∧ (q : Int) = u) by omega)]
    simp
theorem yx_reach (hG : ∀ j : Nat, j < 24 → z24 (G j)) (huv : (u = -1 ∧ v = -1) ∨ (0 ≤ u ∧ u < 24 ∧ 0 ≤ v ∧ v < 24)) {x : Int} (x1 : 0 ≤ x) (x2 : x < 24) : ∃ s, zf_View_reach x u v G = some s ∧ yg_re (yg_E G u v) x.toNat s := by
  have bx : ∀ j, zb (zi_shl 1 x) j = decide (j = x.toNat) := fun j => zb_shl x1 (by omega)
  obtain ⟨s, e, h⟩ := yx_reach_l (a := x.toNat) hG huv 24 (zi_shl 1 x) (zi_shl 1 x) 0 zi_fu (by decide) (by decide) (by decide) (z24_shl x1 x2) (z24_shl x1 x2) (fun j h => h) (by rw [bx]; exact decide_eq_true rfl) (fun S sa _ j _ hj => by
    rw [bx, decide_eq_true_eq] at hj
    rw [hj]; exact sa) (fun p q _ _ fp tp => absurd fp tp) (by
    have : (fun j => zb (zi_shl 1 x) j && !zb (zi_shl 1 x) j) = fun _ => false := funext fun j => by cases zb (zi_shl 1 x) j <;> rfl
    rw [this]; decide)
  refine ⟨s, ?_, h⟩
  unfold zf_View_reach
  rw [e, zl_b]
end YRE
end
section
/-! figureOf: alike. -/
section YFG
variable {G : Int → Int} {a : Nat}
theorem yg_E_m1 {p q : Nat} : yg_E G (-1) (-1) p q = zb (G p) q := by
  unfold yg_E
  rw [decide_eq_false (show ¬ ((p : Int) = -1 ∧ (q : Int) = -1) by omega)]
  simp
theorem yg_re_cg {E F : Nat → Nat → Bool} (e : ∀ p q, p < 24 → q < 24 → E p q = F p q) {s : Int} (h : yg_re E a s) : yg_re F a s := by
  obtain ⟨h1, h2, h3, h4⟩ := h
  exact ⟨h1, h2, fun p q hp hq sp he => h3 p q hp hq sp (by rw [e p q hp hq]; exact he), fun S sa sc => h4 S sa fun p q hp hq sp he => sc p q hp hq sp (by rw [← e p q hp hq]; exact he)⟩
theorem ym_fig1 (hG : ∀ j : Nat, j < 24 → z24 (G j)) {c : Int} (hc : z24 c) : ∀ (d : Nat) (j : Nat) (x : Int) (n : Nat), j + d = 24 → d < n → z24 x → ∃ s, zf_M_figureOf_l1 c G n x (j : Int) = some s ∧ z24 s ∧ ∀ q, zb s q = true ↔ zb x q = true ∨ ∃ p, j ≤ p ∧ p < 24 ∧ zb c p = true ∧ zb (G p) q = true := by
  intro d
  induction d with
  | zero =>
    intro j x n e hn hx
    obtain ⟨n, rfl⟩ : ∃ q, n = q + 1 := ⟨n - 1, by omega⟩
    refine ⟨x, ?_, hx, fun q => ⟨.inl, fun h => ?_⟩⟩
    · show zf_M_figureOf_l1_b c G (zf_M_figureOf_l1 c G n) x (j : Int) = _
      unfold zf_M_figureOf_l1_b
      rw [if_neg (by omega)]
    · rcases h with h | ⟨p, p1, p2, _⟩
      · exact h
      · omega
  | succ d ih =>
    intro j x n e hn hx
    obtain ⟨n, rfl⟩ : ∃ q, n = q + 1 := ⟨n - 1, by omega⟩
    show ∃ s, zf_M_figureOf_l1_b c G (zf_M_figureOf_l1 c G n) x (j : Int) = _ ∧ _
    unfold zf_M_figureOf_l1_b
    rw [if_pos (by omega), ze_M_has hc.1 (by have := hc.2; omega) (by omega) (by omega), zl_b, zb_tb2 hc.1 (by have := hc.2; omega), Int.toNat_natCast, zi_w_id (x := (j : Int) + 1) (by omega) (by omega)]
    by_cases q : zb c j = true
    · rw [if_pos q, if_neg (by decide), zl_ci (by omega) (by omega)]
      obtain ⟨s, e1, e2, e3⟩ := ih (j + 1) (zi_or x (G j)) n (by omega) (by omega) (z24_or hx (hG j (by omega)))
      refine ⟨s, e1, e2, fun b => ?_⟩
      rw [e3, zb_or, Bool.or_eq_true]
      constructor
      · rintro ((h | h) | ⟨p, p1, p2, h⟩)
        · exact .inl h
        · exact .inr ⟨j, Nat.le_refl _, by omega, q, h⟩
        · exact .inr ⟨p, by omega, p2, h⟩
      · rintro (h | ⟨p, p1, p2, h1, h2⟩)
        · exact .inl (.inl h)
        · by_cases ep : p = j
          · subst ep; exact .inl (.inr h2)
          · exact .inr ⟨p, by omega, p2, h1, h2⟩
    · rw [if_neg q, if_pos rfl]
      obtain ⟨s, e1, e2, e3⟩ := ih (j + 1) x n (by omega) (by omega) hx
      refine ⟨s, e1, e2, fun b => ?_⟩
      rw [e3]
      constructor
      · rintro (h | ⟨p, p1, p2, h⟩)
        · exact .inl h
        · exact .inr ⟨p, by omega, p2, h⟩
      · rintro (h | ⟨p, p1, p2, h1, h2⟩)
        · exact .inl h
        · by_cases ep : p = j
          · subst ep; exact absurd h1 q
          · exact .inr ⟨p, by omega, p2, h1, h2⟩
theorem ym_fig0 (hG : ∀ j : Nat, j < 24 → z24 (G j)) : ∀ (d : Nat) (c pv : Int) (n : Nat), 24 - yn_n (zb pv) 24 ≤ d → d < n → z24 c → z24 pv → (∀ j, zb pv j = true → zb c j = true) → (∀ p q, p < 24 → q < 24 → zb pv p = true → zb (G p) q = true → zb c q = true) → zb c a = true → (∀ S : Nat → Bool, S a = true → yg_sh (yg_E G (-1) (-1)) S → ∀ j, j < 24 → zb c j = true → S j = true) →
    ∃ s, zf_M_figureOf_l0 G n c pv = some s ∧ yg_re (yg_E G (-1) (-1)) a s := by
  intro d
  induction d with
  | zero =>
    intro c pv n e hn hc hp sub st ha hm
    obtain ⟨n, rfl⟩ : ∃ q, n = q + 1 := ⟨n - 1, by omega⟩
    have al := yn_all 24 (f := zb pv) (by have := yn_in (f := zb pv) 24; omega)
    have ep : pv = c := z24_ext hp hc fun j hj => by rw [al j hj, sub j (al j hj)]
    refine ⟨c, ?_, hc, ha, fun p q hp2 hq2 sp he => st p q hp2 hq2 (al p hp2) (by rw [← yg_E_m1]; exact he), hm⟩
    show zf_M_figureOf_l0_b G (zf_M_figureOf_l0 G n) c pv = _
    unfold zf_M_figureOf_l0_b
    rw [if_pos ep]
  | succ d ih =>
    intro c pv n e hn hc hp sub st ha hm
    obtain ⟨n, rfl⟩ : ∃ q, n = q + 1 := ⟨n - 1, by omega⟩
    show ∃ s, zf_M_figureOf_l0_b G (zf_M_figureOf_l0 G n) c pv = _ ∧ _
    unfold zf_M_figureOf_l0_b
    by_cases q : pv = c
    · rw [if_pos q]
      refine ⟨c, rfl, hc, ha, fun p b hp2 hq2 sp he => st p b hp2 hq2 (by rw [q]; exact sp) (by rw [← yg_E_m1]; exact he), hm⟩
    rw [if_neg q]
    obtain ⟨s, e1, e2, e3⟩ := ym_fig1 hG hc 24 0 c zi_fu rfl (by decide) hc
    rw [show zf_M_figureOf_l1 c G zi_fu c 0 = _ from e1, zl_b]
    have hlt : yn_n (zb pv) 24 + 1 ≤ yn_n (zb c) 24 := by
      have hex : ∃ k, k < 24 ∧ ¬ zb pv k = true ∧ zb c k = true := by
        by_cases w : ∃ k, k < 24 ∧ ¬ zb pv k = true ∧ zb c k = true
        · exact w
        · refine absurd (z24_ext hp hc fun j hj => ?_) q
          cases x : zb pv j <;> cases y : zb c j
          · rfl
          · exact absurd ⟨j, hj, by rw [x]; decide, y⟩ w
          · rw [sub j x] at y; cases y
          · rfl
      obtain ⟨k, k1, k2, k3⟩ := hex
      exact yn_lt k2 k3 24 k1 fun j _ h => sub j h
    exact ih s c n (by omega) (by omega) e2 hc (fun j h => (e3 j).mpr (.inl h)) (fun p b hp2 _ sp he => (e3 b).mpr (.inr ⟨p, by omega, hp2, sp, he⟩)) ((e3 a).mpr (.inl ha)) (fun S sa sc j hj h => by
      rcases (e3 j).mp h with h | ⟨p, _, p2, h1, h2⟩
      · exact hm S sa sc j hj h
      · exact sc p j p2 hj (hm S sa sc p p2 h1) (by rw [yg_E_m1]; exact h2))
theorem ym_figureOf (hG : ∀ j : Nat, j < 24 → z24 (G j)) {x : Int} (x1 : 0 ≤ x) (x2 : x < 24) : ∃ s, zf_M_figureOf x G = some s ∧ yg_re (yg_E G (-1) (-1)) x.toNat s := by
  have bx : ∀ j, zb (zi_shl 1 x) j = decide (j = x.toNat) := fun j => zb_shl x1 (by omega)
  have z0 : yn_n (zb 0) 24 = 0 := by decide +kernel
  obtain ⟨s, e, h⟩ := ym_fig0 (a := x.toNat) hG 24 (zi_shl 1 x) 0 zi_fu (by omega) (by decide) (z24_shl x1 x2) z24_0 (fun j h => by rw [zb_0] at h; cases h) (fun p q _ _ h _ => by rw [zb_0] at h; cases h) (by rw [bx]; exact decide_eq_true rfl) (fun S sa _ j _ hj => by
    rw [bx, decide_eq_true_eq] at hj
    rw [hj]; exact sa)
  refine ⟨s, ?_, h⟩
  unfold zf_M_figureOf
  rw [e, zl_b]
/-- one figure, both ways -/
theorem yo_fig (hG : ∀ j : Nat, j < 24 → z24 (G j)) {x : Int} (x1 : 0 ≤ x) (x2 : x < 24) : ∃ s, zf_View_reach x (-1) (-1) G = some s ∧ zf_M_figureOf x G = some s ∧ yg_re (yg_E G (-1) (-1)) x.toNat s := by
  obtain ⟨s, e1, h1⟩ := yx_reach (u := -1) (v := -1) hG (.inl ⟨rfl, rfl⟩) x1 x2
  obtain ⟨s2, e2, h2⟩ := ym_figureOf hG x1 x2
  have := yg_re_eq h1 h2
  subst this
  exact ⟨s, e1, e2, h1⟩
end YFG
end
section
/-! Lines, figures, legs counted: alike on both sides. -/
section YSK
variable {G H : Int → Int} {s : Int}
theorem yo_fig2 (hG : ∀ j : Nat, j < 24 → z24 (G j)) (e : ∀ j : Nat, j < 24 → G j = H j) {x : Int} (x1 : 0 ≤ x) (x2 : x < 24) : ∃ s, zf_View_reach x (-1) (-1) G = some s ∧ zf_M_figureOf x H = some s ∧ yg_re (yg_E G (-1) (-1)) x.toNat s := by
  obtain ⟨s, e1, h1⟩ := yx_reach (u := -1) (v := -1) hG (.inl ⟨rfl, rfl⟩) x1 x2
  obtain ⟨s2, e2, h2⟩ := ym_figureOf (G := H) (fun j hj => by rw [← e j hj]; exact hG j hj) x1 x2
  have := yg_re_eq h1 (yg_re_cg (fun p q hp _ => by rw [yg_E_m1, yg_E_m1, e p hp]) h2)
  subst this
  exact ⟨s, e1, e2, h1⟩
theorem ze_bc {t : Int} (h : z24 t) : zf_Integer_bitCount t = some (zs_sum t 24) := ze_bitCount h.1 (by have := h.2; omega)
theorem ze_mb {t : Int} (h : z24 t) : zf_M_bits t = some (zs_sum t 24) := ze_M_bits h.1 (by have := h.2; omega)
theorem ze_mh {t : Int} (h : z24 t) {i : Int} (i1 : 0 ≤ i) (i2 : i < 24) : zf_M_has t i = some (if zb t i.toNat = true then 1 else 0) := by
  rw [ze_M_has h.1 (by have := h.2; omega) i1 (by omega), zb_tb2 h.1 (by have := h.2; omega)]
theorem ze_mm {a b : Int} : zf_M_max a b = some (if b < a then a else b) := by
  unfold zf_M_max
  split <;> rfl
theorem yo_figs_l (hG : ∀ j : Nat, j < 24 → z24 (G j)) (e : ∀ j : Nat, j < 24 → G j = H j) : ∀ (d : Nat) (i c mx l : Int) (n : Nat), i + d = 24 → 0 ≤ i → d < n → 0 ≤ c → c ≤ i → 0 ≤ mx → mx ≤ 24 → z24 l →
    ∃ c' mx', zf_View_countFigures_l0 G n c l i = some c' ∧ zf_View_largestFigure_l0 G n mx l i = some mx' ∧ zf_M_laysFigures_l0 H n l i c mx = some (c', mx') ∧ (0 ≤ c' ∧ c' ≤ 24) := by
  intro d
  induction d with
  | zero =>
    intro i c mx l n ei i0 hn c0 c1 m0 m1 zl
    obtain ⟨n, rfl⟩ : ∃ q, n = q + 1 := ⟨n - 1, by omega⟩
    refine ⟨c, mx, ?_, ?_, ?_, c0, by omega⟩
    · show zf_View_countFigures_l0_b G (zf_View_countFigures_l0 G n) c l i = _
      unfold zf_View_countFigures_l0_b
      rw [if_neg (by omega)]
    · show zf_View_largestFigure_l0_b G (zf_View_largestFigure_l0 G n) mx l i = _
      unfold zf_View_largestFigure_l0_b
      rw [if_neg (by omega)]
    · show zf_M_laysFigures_l0_b H (zf_M_laysFigures_l0 H n) l i c mx = _
      unfold zf_M_laysFigures_l0_b
      rw [if_neg (by omega)]
  | succ d ih =>
    intro i c mx l n ei i0 hn c0 c1 m0 m1 zl
    obtain ⟨n, rfl⟩ : ∃ q, n = q + 1 := ⟨n - 1, by omega⟩
    show ∃ c' mx', zf_View_countFigures_l0_b G (zf_View_countFigures_l0 G n) c l i = _ ∧ zf_View_largestFigure_l0_b G (zf_View_largestFigure_l0 G n) mx l i = _ ∧ zf_M_laysFigures_l0_b H (zf_M_laysFigures_l0 H n) l i c mx = _ ∧ _
    unfold zf_View_countFigures_l0_b zf_View_largestFigure_l0_b zf_M_laysFigures_l0_b
    rw [if_pos (show i < 24 by omega), if_pos (show i < 24 by omega), if_pos (show i < 24 by omega), ze_mh zl i0 (by omega), zl_b, zb_bit i0 (by omega), zi_w_id (x := i + 1) (by omega) (by omega)]
    by_cases q : zb l i.toNat = true
    · rw [if_pos q, if_neg (show ¬ (1 : Int) = 0 by decide), if_neg (show ¬ (1 : Int) = 0 by decide), if_neg (show ¬ (1 : Int) = 0 by decide)]
      obtain ⟨s, e1, e2, hs, -⟩ := yo_fig2 hG e i0 (by omega : i < 24)
      have bs := zs_sum_in (t := s) 24
      rw [e1, e2, zl_b, zl_b, zl_b, ze_bc hs, ze_mb hs, zl_b, zl_b, ze_Math_max, ze_mm, zl_b, zl_b, zi_w_id (x := c + 1) (by omega) (by omega)]
      have em : (if zs_sum s 24 < mx then mx else zs_sum s 24) = if mx < zs_sum s 24 then zs_sum s 24 else mx := by
        split <;> split <;> omega
      have hm : 0 ≤ (if mx < zs_sum s 24 then zs_sum s 24 else mx) ∧ (if mx < zs_sum s 24 then zs_sum s 24 else mx) ≤ 24 := by
        split <;> omega
      rw [em]
      exact ih (i + 1) (c + 1) (if mx < zs_sum s 24 then zs_sum s 24 else mx) _ n (by omega) (by omega) (by omega) (by omega) (by omega) hm.1 hm.2 (z24_and zl)
    · rw [if_neg q, if_pos rfl, if_pos rfl, if_pos rfl]
      exact ih (i + 1) c mx l n (by omega) (by omega) (by omega) c0 (by omega) m0 m1 zl
theorem yo_figs (hG : ∀ j : Nat, j < 24 → z24 (G j)) (e : ∀ j : Nat, j < 24 → G j = H j) (hs : z24 s) {f0 f1 : Int} : ∃ c mx, zf_View_countFigures s G = some c ∧ zf_View_largestFigure s G = some mx ∧ zf_M_laysFigures f0 f1 s H = some (c, mx) ∧ (0 ≤ c ∧ c ≤ 24) := by
  obtain ⟨c, mx, e1, e2, e3, h⟩ := yo_figs_l hG e 24 0 0 0 s zi_fu (by decide) (by decide) (by decide) (by decide) (by decide) (by decide) (by decide) hs
  refine ⟨c, mx, ?_, ?_, ?_, h⟩
  · unfold zf_View_countFigures
    rw [e1]; rfl
  · unfold zf_View_largestFigure
    rw [e2]; rfl
  · unfold zf_M_laysFigures
    rw [e3]; rfl
theorem yo_lines_l (hG : ∀ j : Nat, j < 24 → z24 (G j)) (e : ∀ j : Nat, j < 24 → G j = H j) : ∀ (d : Nat) (i c : Int) (n : Nat), i + d = 24 → 0 ≤ i → d < n → 0 ≤ c → c ≤ 24 * i → ∃ c', zf_View_countLines_l0 G n c i = some c' ∧ zf_M_lineMany_l0 H n c i = some c' ∧ 0 ≤ c' ∧ c' ≤ 576 := by
  intro d
  induction d with
  | zero =>
    intro i c n ei i0 hn c0 c1
    obtain ⟨n, rfl⟩ : ∃ q, n = q + 1 := ⟨n - 1, by omega⟩
    refine ⟨c, ?_, ?_, c0, by omega⟩
    · show zf_View_countLines_l0_b G (zf_View_countLines_l0 G n) c i = _
      unfold zf_View_countLines_l0_b
      rw [if_neg (by omega)]
    · show zf_M_lineMany_l0_b H (zf_M_lineMany_l0 H n) c i = _
      unfold zf_M_lineMany_l0_b
      rw [if_neg (by omega)]
  | succ d ih =>
    intro i c n ei i0 hn c0 c1
    obtain ⟨n, rfl⟩ : ∃ q, n = q + 1 := ⟨n - 1, by omega⟩
    have ez := hG i.toNat (by omega)
    have eh := e i.toNat (by omega)
    rw [Int.toNat_of_nonneg i0] at ez eh
    have bs := zs_sum_in (t := G i) 24
    show ∃ c', zf_View_countLines_l0_b G (zf_View_countLines_l0 G n) c i = _ ∧ zf_M_lineMany_l0_b H (zf_M_lineMany_l0 H n) c i = _ ∧ _
    unfold zf_View_countLines_l0_b zf_M_lineMany_l0_b
    rw [if_pos (show i < 24 by omega), if_pos (show i < 24 by omega), zl_ci i0 (by omega), zl_ci i0 (by omega), ← eh, ze_bc ez, ze_mb ez, zl_b, zl_b, zi_w_id (x := i + 1) (by omega) (by omega), zi_w_id (x := c + zs_sum (G i) 24) (by omega) (by omega)]
    exact ih (i + 1) _ n (by omega) (by omega) (by omega) (by omega) (by omega)
theorem yo_lines (hG : ∀ j : Nat, j < 24 → z24 (G j)) (e : ∀ j : Nat, j < 24 → G j = H j) : ∃ c, zf_View_countLines G = some c ∧ zf_M_lineMany H = some c ∧ 0 ≤ c ∧ c ≤ 288 := by
  obtain ⟨c, e1, e2, c0, c1⟩ := yo_lines_l hG e 24 0 0 zi_fu (by decide) (by decide) (by decide) (by decide) (by decide)
  have ed : zi_div c 2 = c / 2 := zi_div_eq c0 (by omega) (by decide) (by decide)
  refine ⟨c / 2, ?_, ?_, by omega, by omega⟩
  · unfold zf_View_countLines
    rw [e1, zl_b, ed]
  · unfold zf_M_lineMany
    rw [e2, zl_b, ed]
theorem yo_legs_l (hG : ∀ j : Nat, j < 24 → z24 (G j)) (e : ∀ j : Nat, j < 24 → G j = H j) (hs : z24 s) : ∀ (d : Nat) (i b : Int) (n : Nat), i + d = 24 → 0 ≤ i → d < n → -1 ≤ b → b < 24 → ∃ b', zf_View_mostLegged_l0 s G n b i = some b' ∧ zf_M_mostLegs_l0 s H n b i = some b' ∧ -1 ≤ b' ∧ b' < 24 := by
  intro d
  induction d with
  | zero =>
    intro i b n ei i0 hn b0 b1
    obtain ⟨n, rfl⟩ : ∃ q, n = q + 1 := ⟨n - 1, by omega⟩
    refine ⟨b, ?_, ?_, b0, b1⟩
    · show zf_View_mostLegged_l0_b s G (zf_View_mostLegged_l0 s G n) b i = _
      unfold zf_View_mostLegged_l0_b
      rw [if_neg (by omega)]
    · show zf_M_mostLegs_l0_b s H (zf_M_mostLegs_l0 s H n) b i = _
      unfold zf_M_mostLegs_l0_b
      rw [if_neg (by omega)]
  | succ d ih =>
    intro i b n ei i0 hn b0 b1
    obtain ⟨n, rfl⟩ : ∃ q, n = q + 1 := ⟨n - 1, by omega⟩
    have ez := hG i.toNat (by omega)
    have eh := e i.toNat (by omega)
    rw [Int.toNat_of_nonneg i0] at ez eh
    have nx : ∀ b2 : Int, -1 ≤ b2 → b2 < 24 → _ := fun b2 h1 h2 => ih (i + 1) b2 n (by omega) (by omega) (by omega) h1 h2
    show ∃ b', zf_View_mostLegged_l0_b s G (zf_View_mostLegged_l0 s G n) b i = _ ∧ zf_M_mostLegs_l0_b s H (zf_M_mostLegs_l0 s H n) b i = _ ∧ _
    unfold zf_View_mostLegged_l0_b zf_M_mostLegs_l0_b
    rw [if_pos (show i < 24 by omega), if_pos (show i < 24 by omega), ze_mh hs i0 (by omega), zl_b, zb_bit i0 (by omega), zi_w_id (x := i + 1) (by omega) (by omega)]
    by_cases q : zb s i.toNat = true
    · rw [if_pos q, if_neg (show ¬ (1 : Int) = 0 by decide), if_neg (show ¬ (1 : Int) = 0 by decide)]
      by_cases c : b = -1
      · rw [if_pos c, if_pos c]
        exact nx i (by omega) (by omega)
      rw [if_neg c, if_neg c]
      have fz := hG b.toNat (by omega)
      have fh := e b.toNat (by omega)
      rw [Int.toNat_of_nonneg (by omega)] at fz fh
      unfold zf_View_legsOf
      rw [if_neg (show ¬ i = -1 by omega), if_neg c, zl_ci i0 (by omega), zl_ci i0 (by omega), ← eh, ze_bc ez, ze_mb ez, zl_b, zl_b, zl_b, zl_ci (show 0 ≤ b by omega) (by omega), zl_ci (show 0 ≤ b by omega) (by omega), ← fh, ze_bc fz, ze_mb fz, zl_b, zl_b, zl_b]
      by_cases w : zs_sum (G b) 24 < zs_sum (G i) 24
      · rw [if_pos w, if_pos w]
        exact nx i (by omega) (by omega)
      · rw [if_neg w, if_neg w]
        exact nx b b0 b1
    · rw [if_neg q, if_pos rfl, if_pos rfl]
      exact nx b b0 b1
theorem yo_legs (hG : ∀ j : Nat, j < 24 → z24 (G j)) (e : ∀ j : Nat, j < 24 → G j = H j) (hs : z24 s) : ∃ b, zf_View_mostLegged s G = some b ∧ zf_M_mostLegs s H = some b ∧ -1 ≤ b ∧ b < 24 := by
  obtain ⟨b, e1, e2, h⟩ := yo_legs_l hG e hs 24 0 (-1) zi_fu (by decide) (by decide) (by decide) (by decide) (by decide)
  refine ⟨b, ?_, ?_, h⟩
  · unfold zf_View_mostLegged
    rw [e1]; rfl
  · unfold zf_M_mostLegs
    rw [e2]; rfl
end YSK
end
section
/-! Lines that hold: alike on both sides. -/
section YHO
variable {G H : Int → Int}
theorem zb_clr {x w : Int} (w1 : 0 ≤ w) (w2 : w < 24) {q : Nat} (hq : q < 24) : zb (zi_and x (zi_xor (zi_shl 1 w) (-1))) q = (zb x q && !decide (q = w.toNat)) := by
  rw [zb_and, zb_not (by omega), zb_shl w1 (by omega)]
theorem yh_back {x w : Int} (hx : z24 x) (w1 : 0 ≤ w) (w2 : w < 24) (hb : zb x w.toNat = true) : zi_or (zi_and x (zi_xor (zi_shl 1 w) (-1))) (zi_shl 1 w) = x := by
  refine z24_ext (z24_or (z24_and hx) (z24_shl w1 w2)) hx fun j hj => ?_
  rw [zb_or, zb_clr w1 w2 hj, zb_shl w1 (by omega)]
  by_cases e : j = w.toNat
  · rw [e, hb, decide_eq_true (rfl : w.toNat = w.toNat)]; rfl
  · rw [decide_eq_false e]; cases zb x j <;> rfl
theorem yo_hold1 (hG : ∀ j : Nat, j < 24 → z24 (G j)) (sym : ∀ p q : Nat, p < 24 → q < 24 → zb (G p) q = true → zb (G q) p = true) {i : Int} (i0 : 0 ≤ i) (i1 : i < 24) : ∀ (d : Nat) (j c : Int) (H : Int → Int) (n : Nat), j + d = 24 → i < j → d < n → 0 ≤ c → c ≤ 24 * i + j → (∀ p : Nat, p < 24 → G p = H p) →
    ∃ c' H', zf_View_countHolding_l1 i G n c j = some c' ∧ zf_M_holding_l1 i n c j H = some (c', H') ∧ (0 ≤ c' ∧ c' ≤ 24 * i + 24) ∧ ∀ p : Nat, p < 24 → G p = H' p := by
  intro d
  induction d with
  | zero =>
    intro j c H n e j0 hn c0 c1 eh
    obtain ⟨n, rfl⟩ : ∃ q, n = q + 1 := ⟨n - 1, by omega⟩
    refine ⟨c, H, ?_, ?_, ⟨c0, by omega⟩, eh⟩
    · show zf_View_countHolding_l1_b i G (zf_View_countHolding_l1 i G n) c j = _
      unfold zf_View_countHolding_l1_b
      rw [if_neg (by omega)]
    · show zf_M_holding_l1_b i (zf_M_holding_l1 i n) c j H = _
      unfold zf_M_holding_l1_b
      rw [if_neg (by omega)]
  | succ d ih =>
    intro j c H n e j0 hn c0 c1 eh
    obtain ⟨n, rfl⟩ : ∃ q, n = q + 1 := ⟨n - 1, by omega⟩
    have zi := hG i.toNat (by omega)
    have ei := eh i.toNat (by omega)
    rw [Int.toNat_of_nonneg i0] at zi ei
    have zj := hG j.toNat (by omega)
    have ej := eh j.toNat (by omega)
    rw [Int.toNat_of_nonneg (by omega)] at zj ej
    show ∃ c' H', zf_View_countHolding_l1_b i G (zf_View_countHolding_l1 i G n) c j = _ ∧ zf_M_holding_l1_b i (zf_M_holding_l1 i n) c j H = _ ∧ _
    unfold zf_View_countHolding_l1_b zf_M_holding_l1_b
    rw [if_pos (show j < 24 by omega), if_pos (show j < 24 by omega), zl_ci i0 (by omega), zl_ci i0 (by omega), ← ei, ze_mh zi (show 0 ≤ j by omega) (by omega), zl_b, zb_bit (show 0 ≤ j by omega) (by omega), zi_w_id (x := j + 1) (by omega) (by omega)]
    by_cases q : zb (G i) j.toNat = true
    · have q2 : zb (G j) i.toNat = true := by
        have := sym i.toNat j.toNat (by omega) (by omega) (by rw [Int.toNat_of_nonneg i0]; exact q)
        rwa [Int.toNat_of_nonneg (by omega)] at this
      rw [if_pos q, if_neg (show ¬ (1 : Int) = 0 by decide), if_neg (show ¬ (1 : Int) = 0 by decide), zl_ci (show 0 ≤ j by omega) (by omega)]
      have ne : i ≠ j := by omega
      obtain ⟨s, e1, h1⟩ := yx_reach (u := i) (v := j) hG (.inr ⟨i0, i1, by omega, by omega⟩) i0 i1
      obtain ⟨H2, hH2⟩ : ∃ H2, H2 = zv_up (zv_up H i (zi_and (G i) (zi_xor (zi_shl 1 j) (-1)))) j (zi_and ((zv_up H i (zi_and (G i) (zi_xor (zi_shl 1 j) (-1)))) j) (zi_xor (zi_shl 1 i) (-1))) := ⟨_, rfl⟩
      rw [← hH2]
      have h2i : H2 i = zi_and (G i) (zi_xor (zi_shl 1 j) (-1)) := by rw [hH2, zv_up_n ne, zv_up_s]
      have h2j : H2 j = zi_and (G j) (zi_xor (zi_shl 1 i) (-1)) := by rw [hH2, zv_up_s, zv_up_n (Ne.symm ne), ej]
      have h2o : ∀ p, p ≠ i → p ≠ j → H2 p = H p := fun p p1 p2 => by rw [hH2, zv_up_n p2, zv_up_n p1]
      have z2 : ∀ p : Nat, p < 24 → z24 (H2 p) := fun p hp => by
        by_cases a : (p : Int) = i
        · rw [a, h2i]; exact z24_and zi
        by_cases b : (p : Int) = j
        · rw [b, h2j]; exact z24_and zj
        rw [h2o _ a b, ← eh p hp]; exact hG p hp
      obtain ⟨s2, e2, h2⟩ := ym_figureOf z2 i0 i1
      have eE : ∀ p b, p < 24 → b < 24 → yg_E H2 (-1) (-1) p b = yg_E G i j p b := fun p b hp hb => by
        rw [yg_E_m1]
        unfold yg_E
        by_cases a : (p : Int) = i
        · rw [a, h2i, zb_clr (by omega) (by omega) hb, decide_eq_false (show ¬ (i = j ∧ (b : Int) = i) by omega), Bool.or_false]
          congr 2
          rw [decide_eq_decide]; omega
        by_cases c : (p : Int) = j
        · rw [c, h2j, zb_clr i0 i1 hb, decide_eq_false (show ¬ (j = i ∧ (b : Int) = j) by omega), Bool.false_or]
          congr 2
          rw [decide_eq_decide]; omega
        rw [h2o _ a c, ← eh p hp, decide_eq_false (show ¬ ((p : Int) = i ∧ (b : Int) = j) by omega), decide_eq_false (show ¬ ((p : Int) = j ∧ (b : Int) = i) by omega)]
        simp
      have es := yg_re_eq h1 (yg_re_cg eE h2)
      subst es
      have zs := h1.1
      rw [e1, e2, zl_b, zl_b, ze_mh zs (show 0 ≤ j by omega) (by omega), zl_b, zb_bit (show 0 ≤ j by omega) (by omega), h2i, yh_back zi (by omega) (by omega) q, zv_up_n (Ne.symm ne), h2j, yh_back zj i0 i1 q2]
      have eh2 : ∀ p : Nat, p < 24 → G p = zv_up (zv_up H2 i (G i)) j (G j) p := fun p hp => by
        by_cases b : (p : Int) = j
        · rw [b, zv_up_s]
        by_cases a : (p : Int) = i
        · rw [zv_up_n b, a, zv_up_s]
        rw [zv_up_n b, zv_up_n a, h2o _ a b]; exact eh p hp
      by_cases w : zb s j.toNat = true
      · rw [if_pos w, if_neg (show ¬ (1 : Int) = 0 by decide), if_neg (show ¬ (1 : Int) = 0 by decide), zi_w_id (x := c + 0) (by omega) (by omega), Int.add_zero]
        exact ih (j + 1) c _ n (by omega) (by omega) (by omega) c0 (by omega) eh2
      · rw [if_neg w, if_pos rfl, if_pos rfl, zi_w_id (x := c + 1) (by omega) (by omega)]
        exact ih (j + 1) (c + 1) _ n (by omega) (by omega) (by omega) (by omega) (by omega) eh2
    · rw [if_neg q, if_pos rfl, if_pos rfl]
      exact ih (j + 1) c H n (by omega) (by omega) (by omega) c0 (by omega) eh
end YHO
end
section
/-! sky and figure: alike on both sides. -/
section YSY
variable {G H : Int → Int}
theorem yv_il_sym {s : Int} {D : Nat → Nat → Bool} (h : yv_il s D G) : ∀ p q : Nat, p < 24 → q < 24 → zb (G p) q = true → zb (G q) p = true := fun p q hp hq hb => by
  rw [(h p hp).2, Bool.and_eq_true] at hb
  rw [(h q hq).2, Bool.and_eq_true]
  refine ⟨decide_eq_true hp, ?_⟩
  have := hb.2
  unfold yv_lk at this ⊢
  rw [Nat.min_comm q p, Nat.max_comm q p, Bool.and_comm (zb s q), ← this]
  congr 2
  rw [decide_eq_decide]
  exact ⟨fun h => Ne.symm h, fun h => Ne.symm h⟩
theorem yo_hold0 (hG : ∀ j : Nat, j < 24 → z24 (G j)) (sym : ∀ p q : Nat, p < 24 → q < 24 → zb (G p) q = true → zb (G q) p = true) : ∀ (d : Nat) (i c : Int) (H : Int → Int) (n : Nat), i + d = 24 → 0 ≤ i → d < n → 0 ≤ c → c ≤ 24 * i → (∀ p : Nat, p < 24 → G p = H p) →
    ∃ c' H', zf_View_countHolding_l0 G n c i = some c' ∧ zf_M_holding_l0 n c i H = some (c', H') := by
  intro d
  induction d with
  | zero =>
    intro i c H n e i0 hn c0 c1 eh
    obtain ⟨n, rfl⟩ : ∃ q, n = q + 1 := ⟨n - 1, by omega⟩
    refine ⟨c, H, ?_, ?_⟩
    · show zf_View_countHolding_l0_b G (zf_View_countHolding_l0 G n) c i = _
      unfold zf_View_countHolding_l0_b
      rw [if_neg (by omega)]
    · show zf_M_holding_l0_b (zf_M_holding_l0 n) c i H = _
      unfold zf_M_holding_l0_b
      rw [if_neg (by omega)]
  | succ d ih =>
    intro i c H n e i0 hn c0 c1 eh
    obtain ⟨n, rfl⟩ : ∃ q, n = q + 1 := ⟨n - 1, by omega⟩
    show ∃ c' H', zf_View_countHolding_l0_b G (zf_View_countHolding_l0 G n) c i = _ ∧ zf_M_holding_l0_b (zf_M_holding_l0 n) c i H = _
    unfold zf_View_countHolding_l0_b zf_M_holding_l0_b
    rw [if_pos (show i < 24 by omega), if_pos (show i < 24 by omega), zi_w_id (x := i + 1) (by omega) (by omega)]
    have hf : (24 - (i + 1)).toNat < zi_fu := Nat.lt_of_le_of_lt (show (24 - (i + 1)).toNat ≤ 24 by omega) (by decide)
    obtain ⟨c2, H2, e1, e2, ⟨b1, b2⟩, eh2⟩ := yo_hold1 hG sym i0 (by omega) (24 - (i + 1)).toNat (i + 1) c H zi_fu (by omega) (by omega) hf c0 (by omega) eh
    rw [e1, e2, zl_b, zl_b]
    exact ih (i + 1) c2 H2 n (by omega) (by omega) (by omega) b1 (by omega) eh2
theorem yo_hold (hG : ∀ j : Nat, j < 24 → z24 (G j)) (sym : ∀ p q : Nat, p < 24 → q < 24 → zb (G p) q = true → zb (G q) p = true) (e : ∀ p : Nat, p < 24 → G p = H p) : ∃ c H', zf_View_countHolding G = some c ∧ zf_M_holding H = some (c, H') := by
  obtain ⟨c, H', e1, e2⟩ := yo_hold0 hG sym 24 0 0 H zi_fu (by decide) (by decide) (by decide) (by decide) (by decide) e
  refine ⟨c, H', ?_, ?_⟩
  · unfold zf_View_countHolding
    rw [e1]; rfl
  · unfold zf_M_holding
    rw [e2]; rfl
end YSY
section YSZ
variable {L : zLW} {K V kd fr hf to C mk mf mh mt : Int → Int} {nc tS tL sP lP mc : Int} {t h u cl sc sr ch : Int} {co ro br wc wr m : Int → Int}
theorem yo_figure (R : yl_R L K V nc tS tL sP lP kd fr hf to mc C mk mf mh mt) (k : yk_sky t h u cl sc sr ch co ro br wc wr m) {x y a f4 f5 f6 f9 f14 f16 f1 : Int} {g0 g1 g9 g11 g12 g2 g6 g7 : Int → Int} :
    ∃ r f4' f5' f6' f9' f14' f16' g0' g1' g9' g11' g12' f1' g2' g6' g7', zf_X_figure x y a t f4 f5 f6 h u f9 sc sr cl tS f14 nc f16 sP tL lP g0 g1 co ro br kd hf to K g9 V g11 g12 = some (r, f4', f5', f6', f9', f14', f16', g0', g1', g9', g11', g12') ∧ zf_M_figure x y a mc f1 m mk g2 mh mt C g6 g7 = some (r, f1', g2', g6', g7') := by
  obtain ⟨⟨ht, k126⟩, -⟩ := id k
  have tin : 0 ≤ t ∧ t ≤ 2147483647 := ⟨ht.1, by have := ht.2; omega⟩
  unfold zf_X_figure zf_M_figure
  rw [ze_X_isPlace, ze_M_isPlace, zl_b, zl_b]
  by_cases q : zs_pl x y = 0
  · rw [if_pos q, if_pos q]
    exact ⟨-1, f4, f5, f6, f9, f14, f16, g0, g1, g9, g11, g12, f1, g2, g6, g7, rfl, rfl⟩
  rw [if_neg q, if_neg q, ze_Sky_hasStar tin.1 tin.2, ze_M_isTold (by rw [k126]; exact tin.1) (by rw [k126]; exact tin.2), k126, zl_b, zl_b]
  obtain ⟨x1, x2, y1, y2⟩ := zs_pl_ne q
  by_cases qa : zs_has 24 t a = 0
  · rw [if_pos qa, if_pos qa]
    exact ⟨-1, f4, f5, f6, f9, f14, f16, g0, g1, g9, g11, g12, f1, g2, g6, g7, rfl, rfl⟩
  rw [if_neg qa, if_neg qa]
  obtain ⟨a1, a2, -⟩ := zs_has_ne qa
  obtain ⟨f3', s', f14', f16', g0', g1', g9', J, g12', e1, i1, l1⟩ := yx_lad (f3 := f4) (f4 := f5) (f5 := f6) (f8 := f9) (f14 := f14) (f16 := f16) (g0 := g0) (g1 := g1) (g9 := g9) (g11 := g11) (g12 := g12) R k x1 (by omega : x ≤ 23) y1 (by omega : y ≤ 11)
  obtain ⟨s2, g2', g6', J2, e2, i2, l2⟩ := ym_looks (f1 := f1) (g := g2) (S := g6) (J := g7) R k x1 (by omega) y1 (by omega)
  rw [e1, zl_b, zi_w_id (x := 24 * y) (by omega) (by omega), zi_w_id (x := 24 * y + x) (by omega) (by omega), e2, zl_b]
  have es := yv_is_eq i1 i2
  subst es
  have hG : ∀ j : Nat, j < 24 → z24 (J j) := fun j hj => (l1 j hj).1
  have ej : ∀ j : Nat, j < 24 → J j = J2 j := fun j hj => yv_il_eq l1 l2 j (by omega) (by omega)
  dsimp only
  rw [ze_mh i1.1 a1 a2, zl_b, zb_bit a1 (by omega)]
  by_cases qs : zb s' a.toNat = true
  · rw [if_pos qs, if_neg (show ¬ (1 : Int) = 0 by decide), if_neg (show ¬ (1 : Int) = 0 by decide)]
    obtain ⟨r, e3, e4, -⟩ := yo_fig2 hG ej a1 a2
    rw [e3, e4, zl_b, zl_b]
    exact ⟨_, _, _, _, _, _, _, _, _, _, _, _, _, _, _, _, rfl, rfl⟩
  · rw [if_neg qs, if_pos rfl, if_pos rfl]
    exact ⟨_, _, _, _, _, _, _, _, _, _, _, _, _, _, _, _, rfl, rfl⟩
end YSZ
end
section
/-! sky: alike on both sides. -/
section YSW
variable {L : zLW} {K V kd fr hf to C mk mf mh mt : Int → Int} {nc tS tL sP lP mc : Int} {t h u cl sc sr ch : Int} {co ro br wc wr m : Int → Int}
theorem yo_sky (R : yl_R L K V nc tS tL sP lP kd fr hf to mc C mk mf mh mt) (k : yk_sky t h u cl sc sr ch co ro br wc wr m) {x y a f3 f4 f5 f8 f14 f16 f1 f2 f33 : Int} {g0 g1 g9 g11 g12 g2 g6 g7 : Int → Int} :
    ∃ r f3' f4' f5' f8' f14' f16' g0' g1' g9' g11' g12' f1' f2' f33' g2' g6' g7', zf_X_sky x y a f3 f4 f5 h u f8 t sc sr cl tS f14 nc f16 sP tL lP g0 g1 co ro br kd hf to K g9 V g11 g12 = some (r, f3', f4', f5', f8', f14', f16', g0', g1', g9', g11', g12') ∧
      zf_M_sky x y a mc f1 f2 f33 m mk g2 mh mt C g6 g7 = some (r, f1', f2', f33', g2', g6', g7') := by
  unfold zf_X_sky zf_M_sky
  rw [ze_X_isPlace, ze_M_isPlace, zl_b, zl_b]
  by_cases q : zs_pl x y = 0
  · rw [if_pos q, if_pos q]
    exact ⟨-1, f3, f4, f5, f8, f14, f16, g0, g1, g9, g11, g12, f1, f2, f33, g2, g6, g7, rfl, rfl⟩
  rw [if_neg q, if_neg q, ze_X_isWithin, zl_b]
  obtain ⟨x1, x2, y1, y2⟩ := zs_pl_ne q
  obtain ⟨s2, g2', g6', J2, e2, i2, l2⟩ := ym_looks (f1 := f1) (g := g2) (S := g6) (J := g7) R k x1 (by omega : x ≤ 23) y1 (by omega : y ≤ 11)
  rw [zi_w_id (x := 24 * y) (by omega) (by omega), zi_w_id (x := 24 * y + x) (by omega) (by omega), e2, zl_b]
  dsimp only
  obtain ⟨f3', s', f14', f16', g0', g1', g9', J, g12', e1, i1, l1⟩ := yx_lad (f3 := f3) (f4 := f4) (f5 := f5) (f8 := f8) (f14 := f14) (f16 := f16) (g0 := g0) (g1 := g1) (g9 := g9) (g11 := g11) (g12 := g12) R k x1 (by omega : x ≤ 23) y1 (by omega : y ≤ 11)
  have es := yv_is_eq i1 i2
  subst es
  have hG : ∀ j : Nat, j < 24 → z24 (J j) := fun j hj => (l1 j hj).1
  have ej : ∀ j : Nat, j < 24 → J j = J2 j := fun j hj => yv_il_eq l1 l2 j (by omega) (by omega)
  obtain ⟨cf, mx, c1, c2, c3, cb⟩ := yo_figs (f0 := f2) (f1 := f33) hG ej i1.1
  obtain ⟨lg, d1, d2, d3, d4⟩ := yo_legs hG ej i1.1
  obtain ⟨ln, n1, n2, n3, n4⟩ := yo_lines hG ej
  obtain ⟨ho, H', h1, h2⟩ := yo_hold hG (yv_il_sym l1) ej
  rw [c3, zl_b, d2, zl_b]
  dsimp only
  by_cases w : zs_in a 0 6 = 0
  · rw [if_pos w]
    have hw : ¬ (0 ≤ a ∧ a ≤ 6) := fun hh => by
      unfold zs_in at w
      rw [if_pos hh] at w
      exact absurd w (by decide)
    rw [if_neg (show ¬ a = 0 by omega), if_neg (show ¬ a = 1 by omega), if_neg (show ¬ a = 2 by omega), if_neg (show ¬ a = 3 by omega), if_neg (show ¬ a = 4 by omega), if_neg (show ¬ a = 5 by omega), if_neg (show ¬ a = 6 by omega)]
    exact ⟨_, _, _, _, _, _, _, _, _, _, _, _, _, _, _, _, _, _, rfl, rfl⟩
  rw [if_neg w, e1, zl_b]
  dsimp only
  rw [n1, zl_b]
  obtain ⟨w1, w2⟩ := zs_in_ne w
  by_cases a0 : a = 0
  · rw [if_pos a0, if_pos a0, n2, zl_b]
    exact ⟨_, _, _, _, _, _, _, _, _, _, _, _, _, _, _, _, _, _, rfl, rfl⟩
  rw [if_neg a0, if_neg a0]
  by_cases a1 : a = 1
  · rw [if_pos a1, if_pos a1, c1, zl_b]
    exact ⟨_, _, _, _, _, _, _, _, _, _, _, _, _, _, _, _, _, _, rfl, rfl⟩
  rw [if_neg a1, if_neg a1]
  by_cases a2 : a = 2
  · rw [if_pos a2, if_pos a2, c2, zl_b]
    exact ⟨_, _, _, _, _, _, _, _, _, _, _, _, _, _, _, _, _, _, rfl, rfl⟩
  rw [if_neg a2, if_neg a2]
  by_cases a3 : a = 3
  · rw [if_pos a3, if_pos a3, ze_bc i1.1, zl_b, c1, zl_b, n2, zl_b, ze_mb i1.1, zl_b]
    exact ⟨_, _, _, _, _, _, _, _, _, _, _, _, _, _, _, _, _, _, rfl, rfl⟩
  rw [if_neg a3, if_neg a3]
  by_cases a4 : a = 4
  · rw [if_pos a4, if_pos a4, h1, zl_b, h2, zl_b]
    exact ⟨_, _, _, _, _, _, _, _, _, _, _, _, _, _, _, _, _, _, rfl, rfl⟩
  rw [if_neg a4, if_neg a4]
  by_cases a5 : a = 5
  · rw [if_pos a5, if_pos a5, d1, zl_b]
    exact ⟨_, _, _, _, _, _, _, _, _, _, _, _, _, _, _, _, _, _, rfl, rfl⟩
  rw [if_neg a5, if_neg a5, if_pos (show a = 6 by omega), d1, zl_b]
  unfold zf_View_legsOf
  by_cases b : lg = -1
  · rw [if_pos b, if_pos b, zl_b]
    exact ⟨_, _, _, _, _, _, _, _, _, _, _, _, _, _, _, _, _, _, rfl, rfl⟩
  have ez := hG lg.toNat (by omega)
  have eh := ej lg.toNat (by omega)
  rw [Int.toNat_of_nonneg (by omega)] at ez eh
  rw [if_neg b, if_neg b, zl_ci (show 0 ≤ lg by omega) (by omega), zl_ci (show 0 ≤ lg by omega) (by omega), ← eh, ze_bc ez, ze_mb ez, zl_b, zl_b, zl_b]
  exact ⟨_, _, _, _, _, _, _, _, _, _, _, _, _, _, _, _, _, _, rfl, rfl⟩
end YSW
end
section
/-! What is seen from both places: alike on both sides. -/
section YSB
theorem yb_keep_l {g1 : Int → Int} : ∀ (d : Nat) (j : Int) (g : Int → Int) (n : Nat), j + d = 24 → 0 ≤ j → d < n → ∃ g2, zf_View_keepShared_l0 g1 n j g = some g2 ∧ (∀ i, j ≤ i → i < 24 → g2 i = zi_and (g i) (g1 i)) ∧ ∀ i, i < j → g2 i = g i := by
  intro d
  induction d with
  | zero =>
    intro j g n e _ hn
    obtain ⟨n, rfl⟩ : ∃ q, n = q + 1 := ⟨n - 1, by omega⟩
    refine ⟨g, ?_, fun i _ _ => by omega, fun _ _ => rfl⟩
    show zf_View_keepShared_l0_b g1 (zf_View_keepShared_l0 g1 n) j g = _
    unfold zf_View_keepShared_l0_b
    rw [if_neg (by omega)]
  | succ d ih =>
    intro j g n e j0 hn
    obtain ⟨n, rfl⟩ : ∃ q, n = q + 1 := ⟨n - 1, by omega⟩
    obtain ⟨g2, e1, a, b⟩ := ih (j + 1) (zv_up g j (zi_and (g j) (g1 j))) n (by omega) (by omega) (by omega)
    refine ⟨g2, ?_, fun i i1 i2 => ?_, fun i i1 => ?_⟩
    · show zf_View_keepShared_l0_b g1 (zf_View_keepShared_l0 g1 n) j g = _
      unfold zf_View_keepShared_l0_b
      rw [if_pos (by omega), zl_ci j0 (by omega), zi_w_id (x := j + 1) (by omega) (by omega), e1]
    · by_cases q : i = j
      · subst q
        rw [b i (by omega), zv_up_s]
      · rw [a i (by omega) i2, zv_up_n q]
    · rw [b i (by omega), zv_up_n (by omega)]
theorem yb_l0 {g1 : Int → Int} : ∀ (d : Nat) (j : Int) (g : Int → Int) (n : Nat), j + d = 24 → 0 ≤ j → d < n → ∃ g2, zf_M_looksBoth_l0 g1 n j g = some g2 ∧ (∀ i, j ≤ i → i < 24 → g2 i = g1 i) ∧ ∀ i, i < j → g2 i = g i := by
  intro d
  induction d with
  | zero =>
    intro j g n e _ hn
    obtain ⟨n, rfl⟩ : ∃ q, n = q + 1 := ⟨n - 1, by omega⟩
    refine ⟨g, ?_, fun i _ _ => by omega, fun _ _ => rfl⟩
    show zf_M_looksBoth_l0_b g1 (zf_M_looksBoth_l0 g1 n) j g = _
    unfold zf_M_looksBoth_l0_b
    rw [if_neg (by omega)]
  | succ d ih =>
    intro j g n e j0 hn
    obtain ⟨n, rfl⟩ : ∃ q, n = q + 1 := ⟨n - 1, by omega⟩
    obtain ⟨g2, e1, a, b⟩ := ih (j + 1) (zv_up g j (g1 j)) n (by omega) (by omega) (by omega)
    refine ⟨g2, ?_, fun i i1 i2 => ?_, fun i i1 => ?_⟩
    · show zf_M_looksBoth_l0_b g1 (zf_M_looksBoth_l0 g1 n) j g = _
      unfold zf_M_looksBoth_l0_b
      rw [if_pos (by omega), zl_ci j0 (by omega), zi_w_id (x := j + 1) (by omega) (by omega), e1]
    · by_cases q : i = j
      · subst q
        rw [b i (by omega), zv_up_s]
      · exact a i (by omega) i2
    · rw [b i (by omega), zv_up_n (by omega)]
theorem yb_l1 {g1 : Int → Int} : ∀ (d : Nat) (j : Int) (g : Int → Int) (n : Nat), j + d = 24 → 0 ≤ j → d < n → ∃ g2, zf_M_looksBoth_l1 g1 n j g = some g2 ∧ (∀ i, j ≤ i → i < 24 → g2 i = zi_and (g i) (g1 i)) ∧ ∀ i, i < j → g2 i = g i := by
  intro d
  induction d with
  | zero =>
    intro j g n e _ hn
    obtain ⟨n, rfl⟩ : ∃ q, n = q + 1 := ⟨n - 1, by omega⟩
    refine ⟨g, ?_, fun i _ _ => by omega, fun _ _ => rfl⟩
    show zf_M_looksBoth_l1_b g1 (zf_M_looksBoth_l1 g1 n) j g = _
    unfold zf_M_looksBoth_l1_b
    rw [if_neg (by omega)]
  | succ d ih =>
    intro j g n e j0 hn
    obtain ⟨n, rfl⟩ : ∃ q, n = q + 1 := ⟨n - 1, by omega⟩
    obtain ⟨g2, e1, a, b⟩ := ih (j + 1) (zv_up g j (zi_and (g j) (g1 j))) n (by omega) (by omega) (by omega)
    refine ⟨g2, ?_, fun i i1 i2 => ?_, fun i i1 => ?_⟩
    · show zf_M_looksBoth_l1_b g1 (zf_M_looksBoth_l1 g1 n) j g = _
      unfold zf_M_looksBoth_l1_b
      rw [if_pos (by omega), zl_ci j0 (by omega), zi_w_id (x := j + 1) (by omega) (by omega), e1]
    · by_cases q : i = j
      · subst q
        rw [b i (by omega), zv_up_s]
      · rw [a i (by omega) i2, zv_up_n q]
    · rw [b i (by omega), zv_up_n (by omega)]
theorem zi_and_cm {a b : Int} : zi_and a b = zi_and b a := by
  unfold zi_and
  refine zi_ev_zb fun j _ => ?_
  show zb (zi_and a b) j = zb (zi_and b a) j
  rw [zb_and, zb_and, Bool.and_comm]
theorem yb_keep {f0 f1 : Int} {g g1 : Int → Int} : ∃ g2, zf_View_keepShared f0 f1 g g1 = some (zi_and f0 f1, g2) ∧ ∀ i, 0 ≤ i → i < 24 → g2 i = zi_and (g i) (g1 i) := by
  obtain ⟨g2, e1, a, -⟩ := yb_keep_l (g1 := g1) 24 0 g zi_fu (by decide) (by decide) (by decide)
  refine ⟨g2, ?_, a⟩
  unfold zf_View_keepShared
  rw [e1]; rfl
theorem yo_lines_eq {G H : Int → Int} : ∀ (d : Nat) (j : Int) (n : Nat), j + d = 24 → 0 ≤ j → d < n → (zf_View_hasLinesOf_l0 G H n j = some (.inl ()) ∧ ∀ i, j ≤ i → i < 24 → G i = H i) ∨ (zf_View_hasLinesOf_l0 G H n j = some (.inr 0) ∧ ∃ i, j ≤ i ∧ i < 24 ∧ G i ≠ H i) := by
  intro d
  induction d with
  | zero =>
    intro j n e _ hn
    obtain ⟨n, rfl⟩ : ∃ q, n = q + 1 := ⟨n - 1, by omega⟩
    refine .inl ⟨?_, fun i _ _ => by omega⟩
    show zf_View_hasLinesOf_l0_b G H (zf_View_hasLinesOf_l0 G H n) j = _
    unfold zf_View_hasLinesOf_l0_b
    rw [if_neg (by omega)]
  | succ d ih =>
    intro j n e j0 hn
    obtain ⟨n, rfl⟩ : ∃ q, n = q + 1 := ⟨n - 1, by omega⟩
    show (zf_View_hasLinesOf_l0_b G H (zf_View_hasLinesOf_l0 G H n) j = _ ∧ _) ∨ (zf_View_hasLinesOf_l0_b G H (zf_View_hasLinesOf_l0 G H n) j = _ ∧ _)
    unfold zf_View_hasLinesOf_l0_b
    rw [if_pos (by omega), zl_ci j0 (by omega), zi_w_id (x := j + 1) (by omega) (by omega)]
    by_cases q : G j = H j
    · rw [if_pos q]
      rcases ih (j + 1) n (by omega) (by omega) (by omega) with ⟨e1, a⟩ | ⟨e1, i, i0, i1, a⟩
      · refine .inl ⟨e1, fun i i0 i1 => ?_⟩
        by_cases w : i = j
        · subst w; exact q
        · exact a i (by omega) i1
      · exact .inr ⟨e1, i, by omega, i1, a⟩
    · rw [if_neg q]
      exact .inr ⟨rfl, j, Int.le_refl _, by omega, q⟩
end YSB
end
section
/-! looksBoth; home's small loops. -/
section YBO
variable {L : zLW} {K V kd fr hf to C mk mf mh mt : Int → Int} {nc tS tL sP lP mc : Int} {t h u cl sc sr ch : Int} {co ro br wc wr m : Int → Int}
theorem ym_both (R : yl_R L K V nc tS tL sP lP kd fr hf to mc C mk mf mh mt) (k : yk_sky t h u cl sc sr ch co ro br wc wr m) {p q f1 : Int} {g2 g6 g7 g8 : Int → Int} (p1 : 0 ≤ p) (p2 : p < 288) (q1 : 0 ≤ q) (q2 : q < 288) {s1 s2 : Int} {J1 J2 : Int → Int}
    (i1 : yv_is L tS t h u cl sc sr co ro br (p % 24) (p / 24) s1) (l1 : yv_il s1 (yv_D L h u co ro br (p % 24) (p / 24)) J1) (i2 : yv_is L tS t h u cl sc sr co ro br (q % 24) (q / 24) s2) (l2 : yv_il s2 (yv_D L h u co ro br (q % 24) (q / 24)) J2) :
    ∃ g2' g6' H g8', zf_M_looksBoth p q mc f1 m mk g2 mh mt C g6 g7 g8 = some (zi_and s1 s2, g2', g6', H, g8') ∧ ∀ i, 0 ≤ i → i < 24 → H i = zi_and (J1 i) (J2 i) := by
  obtain ⟨r1, a2, a6, A, e1, b1, c1⟩ := ym_looks (f1 := f1) (g := g2) (S := g6) (J := g7) (x := p % 24) (y := p / 24) R k (by omega) (by omega) (by omega) (by omega)
  rw [show 24 * (p / 24) + p % 24 = p by omega] at e1
  have es := yv_is_eq b1 i1
  subst es
  obtain ⟨r2, d2, d6, D, e2, b2, c2⟩ := ym_looks (f1 := r1) (g := a2) (S := a6) (J := A) (x := q % 24) (y := q / 24) R k (by omega) (by omega) (by omega) (by omega)
  rw [show 24 * (q / 24) + q % 24 = q by omega] at e2
  have es := yv_is_eq b2 i2
  subst es
  obtain ⟨B, e3, hB, -⟩ := yb_l0 (g1 := A) 24 0 g8 zi_fu (by decide) (by decide) (by decide)
  obtain ⟨H, e4, hH, -⟩ := yb_l1 (g1 := B) 24 0 D zi_fu (by decide) (by decide) (by decide)
  refine ⟨d2, d6, H, B, ?_, fun i i0 i1' => ?_⟩
  · unfold zf_M_looksBoth
    rw [e1, zl_b]
    dsimp only
    rw [e3, zl_b, e2, zl_b]
    dsimp only
    rw [e4, zl_b, zi_and_cm (a := r2)]
  · rw [hH i i0 i1', hB i i0 i1', yv_il_eq c1 l1 i i0 i1', yv_il_eq c2 l2 i i0 i1', zi_and_cm]
theorem yh_l0 {g1 : Int → Int} : ∀ (d : Nat) (j : Int) (g : Int → Int) (n : Nat), j + d = 24 → 0 ≤ j → d < n → ∃ g2, zf_M_home_l0 g1 n j g = some g2 ∧ (∀ i, j ≤ i → i < 24 → g2 i = g1 i) ∧ ∀ i, i < j → g2 i = g i := by
  intro d
  induction d with
  | zero =>
    intro j g n e _ hn
    obtain ⟨n, rfl⟩ : ∃ q, n = q + 1 := ⟨n - 1, by omega⟩
    refine ⟨g, ?_, fun i _ _ => by omega, fun _ _ => rfl⟩
    show zf_M_home_l0_b g1 (zf_M_home_l0 g1 n) j g = _
    unfold zf_M_home_l0_b
    rw [if_neg (by omega)]
  | succ d ih =>
    intro j g n e j0 hn
    obtain ⟨n, rfl⟩ : ∃ q, n = q + 1 := ⟨n - 1, by omega⟩
    obtain ⟨g2, e1, a, b⟩ := ih (j + 1) (zv_up g j (g1 j)) n (by omega) (by omega) (by omega)
    refine ⟨g2, ?_, fun i i1 i2 => ?_, fun i i1 => ?_⟩
    · show zf_M_home_l0_b g1 (zf_M_home_l0 g1 n) j g = _
      unfold zf_M_home_l0_b
      rw [if_pos (by omega), zl_ci j0 (by omega), zi_w_id (x := j + 1) (by omega) (by omega), e1]
    · by_cases q : i = j
      · subst q
        rw [b i (by omega), zv_up_s]
      · exact a i (by omega) i2
    · rw [b i (by omega), zv_up_n (by omega)]
theorem yh_l2 {G H : Int → Int} : ∀ (d : Nat) (j x : Int) (n : Nat), j + d = 24 → 0 ≤ j → d < n → (x = 0 ∨ x = 1) → (zf_M_home_l2 G H n x j = some 1 ∧ x = 1 ∧ ∀ i, j ≤ i → i < 24 → G i = H i) ∨ (zf_M_home_l2 G H n x j = some 0 ∧ (x = 0 ∨ ∃ i, j ≤ i ∧ i < 24 ∧ G i ≠ H i)) := by
  intro d
  induction d with
  | zero =>
    intro j x n e _ hn hx
    obtain ⟨n, rfl⟩ : ∃ q, n = q + 1 := ⟨n - 1, by omega⟩
    have : zf_M_home_l2 G H (n + 1) x j = some x := by
      show zf_M_home_l2_b G H (zf_M_home_l2 G H n) x j = _
      unfold zf_M_home_l2_b
      rw [if_neg (by omega)]
    rw [this]
    rcases hx with hx | hx
    · exact .inr ⟨by rw [hx], .inl hx⟩
    · exact .inl ⟨by rw [hx], hx, fun i _ _ => by omega⟩
  | succ d ih =>
    intro j x n e j0 hn hx
    obtain ⟨n, rfl⟩ : ∃ q, n = q + 1 := ⟨n - 1, by omega⟩
    show (zf_M_home_l2_b G H (zf_M_home_l2 G H n) x j = _ ∧ _) ∨ (zf_M_home_l2_b G H (zf_M_home_l2 G H n) x j = _ ∧ _)
    unfold zf_M_home_l2_b
    rw [if_pos (show j < 24 by omega), zi_w_id (x := j + 1) (by omega) (by omega)]
    by_cases c : x = 0
    · rw [if_pos c]
      rcases ih (j + 1) 0 n (by omega) (by omega) (by omega) (.inl rfl) with ⟨e1, w, _⟩ | ⟨e1, _⟩
      · exact absurd w (by decide)
      · exact .inr ⟨e1, .inl c⟩
    rw [if_neg c, zl_ci j0 (by omega)]
    by_cases q : G j = H j
    · rw [if_pos q]
      rcases ih (j + 1) 1 n (by omega) (by omega) (by omega) (.inr rfl) with ⟨e1, _, a⟩ | ⟨e1, w | ⟨i, i0, i1, a⟩⟩
      · refine .inl ⟨e1, by omega, fun i i0 i1 => ?_⟩
        by_cases z : i = j
        · subst z; exact q
        · exact a i (by omega) i1
      · exact absurd w (by decide)
      · exact .inr ⟨e1, .inr ⟨i, by omega, i1, a⟩⟩
    · rw [if_neg q]
      rcases ih (j + 1) 0 n (by omega) (by omega) (by omega) (.inl rfl) with ⟨e1, w, _⟩ | ⟨e1, _⟩
      · exact absurd w (by decide)
      · exact .inr ⟨e1, .inr ⟨j, Int.le_refl _, by omega, q⟩⟩
end YBO
end
section
/-! A log's bytes: alike on both sides. -/
section YLG
variable {T M : Int → Int} {n : Int}
theorem yl_bytes_l (hT : yk_T T M) (n2 : n ≤ 12) : ∀ (d : Nat) (j : Int) (A B : Int → Int) (f f2 : Nat), n - j ≤ d → 0 ≤ j → d < f → d < f2 → (∀ i, 0 ≤ i → i < j → A i = T (2 * i) ∧ B i = T (2 * i + 1)) →
    (∃ A' B', zf_X_isLogBytes_l0 n T f j = some (.inl ()) ∧ zf_M_takesLog_l0 n M f2 j A B = some (.inl (A', B')) ∧ ∀ i, 0 ≤ i → i < n → A' i = T (2 * i) ∧ B' i = T (2 * i + 1)) ∨ ∃ A' B', zf_X_isLogBytes_l0 n T f j = some (.inr 0) ∧ zf_M_takesLog_l0 n M f2 j A B = some (.inr (0, A', B')) := by
  intro d
  induction d with
  | zero =>
    intro j A B f f2 e j0 hf hf2 h
    obtain ⟨f, rfl⟩ : ∃ q, f = q + 1 := ⟨f - 1, by omega⟩
    obtain ⟨f2, rfl⟩ : ∃ q, f2 = q + 1 := ⟨f2 - 1, by omega⟩
    refine .inl ⟨A, B, ?_, ?_, fun i i0 i1 => h i i0 (by omega)⟩
    · show zf_X_isLogBytes_l0_b n T (zf_X_isLogBytes_l0 n T f) j = _
      unfold zf_X_isLogBytes_l0_b
      rw [if_neg (by omega)]
    · show zf_M_takesLog_l0_b n M (zf_M_takesLog_l0 n M f2) j A B = _
      unfold zf_M_takesLog_l0_b
      rw [if_neg (by omega)]
  | succ d ih =>
    intro j A B f f2 e j0 hf hf2 h
    obtain ⟨f, rfl⟩ : ∃ q, f = q + 1 := ⟨f - 1, by omega⟩
    obtain ⟨f2, rfl⟩ : ∃ q, f2 = q + 1 := ⟨f2 - 1, by omega⟩
    show (∃ A' B', zf_X_isLogBytes_l0_b n T (zf_X_isLogBytes_l0 n T f) j = _ ∧ zf_M_takesLog_l0_b n M (zf_M_takesLog_l0 n M f2) j A B = _ ∧ _) ∨ ∃ A' B', zf_X_isLogBytes_l0_b n T (zf_X_isLogBytes_l0 n T f) j = _ ∧ zf_M_takesLog_l0_b n M (zf_M_takesLog_l0 n M f2) j A B = _
    unfold zf_X_isLogBytes_l0_b zf_M_takesLog_l0_b
    by_cases q : ¬ j < n
    · rw [if_neg q, if_neg q]
      exact .inl ⟨A, B, rfl, rfl, fun i i0 i1 => h i i0 (by omega)⟩
    have q : j < n := by omega
    rw [if_pos q, if_pos q, zi_w_id (x := 2 * j) (by omega) (by omega), zi_w_id (x := 2 * j + 1) (by omega) (by omega), zi_w_id (x := n - 1) (by omega) (by omega), zi_w_id (x := j + 1) (by omega) (by omega), ze_byteAt (show 0 ≤ 2 * j by omega) (by omega), zl_b, zl_ci (show 0 ≤ 2 * j by omega) (by omega), zl_ci j0 (by omega), zl_ci (show 0 ≤ 2 * j + 1 by omega) (by omega), (hT (2 * j) (by omega) (by omega)).1, (hT (2 * j + 1) (by omega) (by omega)).1, zv_up_s, zv_up_s]
    by_cases c : 1 < T (2 * j)
    · rw [if_pos c, if_pos c]
      exact .inr ⟨_, _, rfl, rfl⟩
    rw [if_neg c, if_neg c]
    have h2 : ∀ i, 0 ≤ i → i < j + 1 → zv_up A j (T (2 * j)) i = T (2 * i) ∧ zv_up B j (T (2 * j + 1)) i = T (2 * i + 1) := fun i i0 i1 => by
      by_cases w : i = j
      · subst w; rw [zv_up_s, zv_up_s]; exact ⟨rfl, rfl⟩
      · rw [zv_up_n w, zv_up_n w]; exact h i i0 (by omega)
    have nx := ih (j + 1) _ _ f f2 (by omega) (by omega) (by omega) (by omega) h2
    by_cases g : j < n - 1
    · rw [if_pos g, if_pos (show j + 1 < n by omega), ze_byteAt (show 0 ≤ 2 * j + 1 by omega) (by omega), zl_b]
      by_cases w : 4 < T (2 * j + 1)
      · rw [if_pos w, if_pos w]
        exact .inr ⟨_, _, rfl, rfl⟩
      · rw [if_neg w, if_neg w]
        exact nx
    · rw [if_neg g, if_neg (show ¬ j + 1 < n by omega)]
      exact nx
theorem yl_bytes (hT : yk_T T M) (n1 : 0 ≤ n) (n2 : n ≤ 12) {A B : Int → Int} : (∃ A' B', zf_X_isLogBytes n T = some 1 ∧ zf_M_takesLog n A M B = some (1, A', B') ∧ ∀ i, 0 ≤ i → i < n → A' i = T (2 * i) ∧ B' i = T (2 * i + 1)) ∨ ∃ A' B', zf_X_isLogBytes n T = some 0 ∧ zf_M_takesLog n A M B = some (0, A', B') := by
  unfold zf_X_isLogBytes zf_M_takesLog
  rcases yl_bytes_l hT n2 12 0 A B zi_fu zi_fu (by omega) (by decide) (by decide) (by decide) (fun i _ _ => by omega) with ⟨A', B', e1, e2, h⟩ | ⟨A', B', e1, e2⟩
  · rw [e1, e2, zl_b, zl_b]
    exact .inl ⟨A', B', rfl, rfl, h⟩
  · rw [e1, e2, zl_b, zl_b]
    exact .inr ⟨A', B', rfl, rfl⟩
end YLG
end
