/-! Lines, figures, legs counted: alike on both sides. -/
section YSK
variable {G H : Int → Int} {s : Int}
theorem yo_fig2 (hG : ∀ j : Nat, j < 24 → z24 (G j)) (e : ∀ j : Nat, j < 24 → G j = H j) {x : Int} (x1 : 0 ≤ x) (x2 : x < 24) : ∃ s, zf_View_reach x (-1) (-1) G = some s ∧ zf_M_figureOf x H = some s ∧ yg_re (yg_E G (-1) (-1)) x.toNat s := by
  obtain ⟨s, e1, h1⟩ := yx_reach (u := -1) (v := -1) hG (.inl ⟨rfl, rfl⟩) x1 x2
  obtain ⟨s2, e2, h2⟩ := ym_figureOf (G := H) (fun j hj => by rw [← e j hj]; exact hG j hj) x1 x2
  have := yg_re_eq h1 (yg_re_cg (fun p q hp _ => by rw [yg_E_m1, yg_E_m1, e p hp]) h2)
  subst this
  exact ⟨s, e1, e2, h1⟩
theorem ze_bc {t : Int} (h : z24 t) : zf_Integer_bitCount t = some (zs_sum t 24) := ze_bitCount h.1 (by have := h.2; omega)
theorem ze_mb {t : Int} (h : z24 t) : zf_M_bits t = some (zs_sum t 24) := ze_M_bits h.1 (by have := h.2; omega)
theorem ze_mh {t : Int} (h : z24 t) {i : Int} (i1 : 0 ≤ i) (i2 : i < 24) : zf_M_has t i = some (if zb t i.toNat = true then 1 else 0) := by
  rw [ze_M_has h.1 (by have := h.2; omega) i1 (by omega), zb_tb2 h.1 (by have := h.2; omega)]
theorem ze_mm {a b : Int} : zf_M_max a b = some (if b < a then a else b) := by
  unfold zf_M_max
  split <;> rfl
theorem yo_figs_l (hG : ∀ j : Nat, j < 24 → z24 (G j)) (e : ∀ j : Nat, j < 24 → G j = H j) : ∀ (d : Nat) (i c mx l : Int) (n : Nat), i + d = 24 → 0 ≤ i → d < n → 0 ≤ c → c ≤ i → 0 ≤ mx → mx ≤ 24 → z24 l →
    ∃ c' mx', zf_View_countFigures_l0 G n c l i = some c' ∧ zf_View_largestFigure_l0 G n mx l i = some mx' ∧ zf_M_laysFigures_l0 H n l i c mx = some (c', mx') ∧ (0 ≤ c' ∧ c' ≤ 24) := by
  intro d
  induction d with
  | zero =>
    intro i c mx l n ei i0 hn c0 c1 m0 m1 zl
    obtain ⟨n, rfl⟩ : ∃ q, n = q + 1 := ⟨n - 1, by omega⟩
    refine ⟨c, mx, ?_, ?_, ?_, c0, by omega⟩
    · show zf_View_countFigures_l0_b G (zf_View_countFigures_l0 G n) c l i = _
      unfold zf_View_countFigures_l0_b
      rw [if_neg (by omega)]
    · show zf_View_largestFigure_l0_b G (zf_View_largestFigure_l0 G n) mx l i = _
      unfold zf_View_largestFigure_l0_b
      rw [if_neg (by omega)]
    · show zf_M_laysFigures_l0_b H (zf_M_laysFigures_l0 H n) l i c mx = _
      unfold zf_M_laysFigures_l0_b
      rw [if_neg (by omega)]
  | succ d ih =>
    intro i c mx l n ei i0 hn c0 c1 m0 m1 zl
    obtain ⟨n, rfl⟩ : ∃ q, n = q + 1 := ⟨n - 1, by omega⟩
    show ∃ c' mx', zf_View_countFigures_l0_b G (zf_View_countFigures_l0 G n) c l i = _ ∧ zf_View_largestFigure_l0_b G (zf_View_largestFigure_l0 G n) mx l i = _ ∧ zf_M_laysFigures_l0_b H (zf_M_laysFigures_l0 H n) l i c mx = _ ∧ _
    unfold zf_View_countFigures_l0_b zf_View_largestFigure_l0_b zf_M_laysFigures_l0_b
    rw [if_pos (show i < 24 by omega), if_pos (show i < 24 by omega), if_pos (show i < 24 by omega), ze_mh zl i0 (by omega), zl_b, zb_bit i0 (by omega), zi_w_id (x := i + 1) (by omega) (by omega)]
    by_cases q : zb l i.toNat = true
    · rw [if_pos q, if_neg (show ¬ (1 : Int) = 0 by decide), if_neg (show ¬ (1 : Int) = 0 by decide), if_neg (show ¬ (1 : Int) = 0 by decide)]
      obtain ⟨s, e1, e2, hs, -⟩ := yo_fig2 hG e i0 (by omega : i < 24)
      have bs := zs_sum_in (t := s) 24
      rw [e1, e2, zl_b, zl_b, zl_b, ze_bc hs, ze_mb hs, zl_b, zl_b, ze_Math_max, ze_mm, zl_b, zl_b, zi_w_id (x := c + 1) (by omega) (by omega)]
      have em : (if zs_sum s 24 < mx then mx else zs_sum s 24) = if mx < zs_sum s 24 then zs_sum s 24 else mx := by
        split <;> split <;> omega
      have hm : 0 ≤ (if mx < zs_sum s 24 then zs_sum s 24 else mx) ∧ (if mx < zs_sum s 24 then zs_sum s 24 else mx) ≤ 24 := by
        split <;> omega
      rw [em]
      exact ih (i + 1) (c + 1) (if mx < zs_sum s 24 then zs_sum s 24 else mx) _ n (by omega) (by omega) (by omega) (by omega) (by omega) hm.1 hm.2 (z24_and zl)
    · rw [if_neg q, if_pos rfl, if_pos rfl, if_pos rfl]
      exact ih (i + 1) c mx l n (by omega) (by omega) (by omega) c0 (by omega) m0 m1 zl
theorem yo_figs (hG : ∀ j : Nat, j < 24 → z24 (G j)) (e : ∀ j : Nat, j < 24 → G j = H j) (hs : z24 s) {f0 f1 : Int} : ∃ c mx, zf_View_countFigures s G = some c ∧ zf_View_largestFigure s G = some mx ∧ zf_M_laysFigures f0 f1 s H = some (c, mx) ∧ (0 ≤ c ∧ c ≤ 24) := by
  obtain ⟨c, mx, e1, e2, e3, h⟩ := yo_figs_l hG e 24 0 0 0 s zi_fu (by decide) (by decide) (by decide) (by decide) (by decide) (by decide) (by decide) hs
  refine ⟨c, mx, ?_, ?_, ?_, h⟩
  · unfold zf_View_countFigures
    rw [e1]; rfl
  · unfold zf_View_largestFigure
    rw [e2]; rfl
  · unfold zf_M_laysFigures
    rw [e3]; rfl
theorem yo_lines_l (hG : ∀ j : Nat, j < 24 → z24 (G j)) (e : ∀ j : Nat, j < 24 → G j = H j) : ∀ (d : Nat) (i c : Int) (n : Nat), i + d = 24 → 0 ≤ i → d < n → 0 ≤ c → c ≤ 24 * i → ∃ c', zf_View_countLines_l0 G n c i = some c' ∧ zf_M_lineMany_l0 H n c i = some c' ∧ 0 ≤ c' ∧ c' ≤ 576 := by
  intro d
  induction d with
  | zero =>
    intro i c n ei i0 hn c0 c1
    obtain ⟨n, rfl⟩ : ∃ q, n = q + 1 := ⟨n - 1, by omega⟩
    refine ⟨c, ?_, ?_, c0, by omega⟩
    · show zf_View_countLines_l0_b G (zf_View_countLines_l0 G n) c i = _
      unfold zf_View_countLines_l0_b
      rw [if_neg (by omega)]
    · show zf_M_lineMany_l0_b H (zf_M_lineMany_l0 H n) c i = _
      unfold zf_M_lineMany_l0_b
      rw [if_neg (by omega)]
  | succ d ih =>
    intro i c n ei i0 hn c0 c1
    obtain ⟨n, rfl⟩ : ∃ q, n = q + 1 := ⟨n - 1, by omega⟩
    have ez := hG i.toNat (by omega)
    have eh := e i.toNat (by omega)
    rw [Int.toNat_of_nonneg i0] at ez eh
    have bs := zs_sum_in (t := G i) 24
    show ∃ c', zf_View_countLines_l0_b G (zf_View_countLines_l0 G n) c i = _ ∧ zf_M_lineMany_l0_b H (zf_M_lineMany_l0 H n) c i = _ ∧ _
    unfold zf_View_countLines_l0_b zf_M_lineMany_l0_b
    rw [if_pos (show i < 24 by omega), if_pos (show i < 24 by omega), zl_ci i0 (by omega), zl_ci i0 (by omega), ← eh, ze_bc ez, ze_mb ez, zl_b, zl_b, zi_w_id (x := i + 1) (by omega) (by omega), zi_w_id (x := c + zs_sum (G i) 24) (by omega) (by omega)]
    exact ih (i + 1) _ n (by omega) (by omega) (by omega) (by omega) (by omega)
theorem yo_lines (hG : ∀ j : Nat, j < 24 → z24 (G j)) (e : ∀ j : Nat, j < 24 → G j = H j) : ∃ c, zf_View_countLines G = some c ∧ zf_M_lineMany H = some c ∧ 0 ≤ c ∧ c ≤ 288 := by
  obtain ⟨c, e1, e2, c0, c1⟩ := yo_lines_l hG e 24 0 0 zi_fu (by decide) (by decide) (by decide) (by decide) (by decide)
  have ed : zi_div c 2 = c / 2 := zi_div_eq c0 (by omega) (by decide) (by decide)
  refine ⟨c / 2, ?_, ?_, by omega, by omega⟩
  · unfold zf_View_countLines
    rw [e1, zl_b, ed]
  · unfold zf_M_lineMany
    rw [e2, zl_b, ed]
theorem yo_legs_l (hG : ∀ j : Nat, j < 24 → z24 (G j)) (e : ∀ j : Nat, j < 24 → G j = H j) (hs : z24 s) : ∀ (d : Nat) (i b : Int) (n : Nat), i + d = 24 → 0 ≤ i → d < n → -1 ≤ b → b < 24 → ∃ b', zf_View_mostLegged_l0 s G n b i = some b' ∧ zf_M_mostLegs_l0 s H n b i = some b' ∧ -1 ≤ b' ∧ b' < 24 := by
  intro d
  induction d with
  | zero =>
    intro i b n ei i0 hn b0 b1
    obtain ⟨n, rfl⟩ : ∃ q, n = q + 1 := ⟨n - 1, by omega⟩
    refine ⟨b, ?_, ?_, b0, b1⟩
    · show zf_View_mostLegged_l0_b s G (zf_View_mostLegged_l0 s G n) b i = _
      unfold zf_View_mostLegged_l0_b
      rw [if_neg (by omega)]
    · show zf_M_mostLegs_l0_b s H (zf_M_mostLegs_l0 s H n) b i = _
      unfold zf_M_mostLegs_l0_b
      rw [if_neg (by omega)]
  | succ d ih =>
    intro i b n ei i0 hn b0 b1
    obtain ⟨n, rfl⟩ : ∃ q, n = q + 1 := ⟨n - 1, by omega⟩
    have ez := hG i.toNat (by omega)
    have eh := e i.toNat (by omega)
    rw [Int.toNat_of_nonneg i0] at ez eh
    have nx : ∀ b2 : Int, -1 ≤ b2 → b2 < 24 → _ := fun b2 h1 h2 => ih (i + 1) b2 n (by omega) (by omega) (by omega) h1 h2
    show ∃ b', zf_View_mostLegged_l0_b s G (zf_View_mostLegged_l0 s G n) b i = _ ∧ zf_M_mostLegs_l0_b s H (zf_M_mostLegs_l0 s H n) b i = _ ∧ _
    unfold zf_View_mostLegged_l0_b zf_M_mostLegs_l0_b
    rw [if_pos (show i < 24 by omega), if_pos (show i < 24 by omega), ze_mh hs i0 (by omega), zl_b, zb_bit i0 (by omega), zi_w_id (x := i + 1) (by omega) (by omega)]
    by_cases q : zb s i.toNat = true
    · rw [if_pos q, if_neg (show ¬ (1 : Int) = 0 by decide), if_neg (show ¬ (1 : Int) = 0 by decide)]
      by_cases c : b = -1
      · rw [if_pos c, if_pos c]
        exact nx i (by omega) (by omega)
      rw [if_neg c, if_neg c]
      have fz := hG b.toNat (by omega)
      have fh := e b.toNat (by omega)
      rw [Int.toNat_of_nonneg (by omega)] at fz fh
      unfold zf_View_legsOf
      rw [if_neg (show ¬ i = -1 by omega), if_neg c, zl_ci i0 (by omega), zl_ci i0 (by omega), ← eh, ze_bc ez, ze_mb ez, zl_b, zl_b, zl_b, zl_ci (show 0 ≤ b by omega) (by omega), zl_ci (show 0 ≤ b by omega) (by omega), ← fh, ze_bc fz, ze_mb fz, zl_b, zl_b, zl_b]
      by_cases w : zs_sum (G b) 24 < zs_sum (G i) 24
      · rw [if_pos w, if_pos w]
        exact nx i (by omega) (by omega)
      · rw [if_neg w, if_neg w]
        exact nx b b0 b1
    · rw [if_neg q, if_pos rfl, if_pos rfl]
      exact nx b b0 b1
theorem yo_legs (hG : ∀ j : Nat, j < 24 → z24 (G j)) (e : ∀ j : Nat, j < 24 → G j = H j) (hs : z24 s) : ∃ b, zf_View_mostLegged s G = some b ∧ zf_M_mostLegs s H = some b ∧ -1 ≤ b ∧ b < 24 := by
  obtain ⟨b, e1, e2, h⟩ := yo_legs_l hG e hs 24 0 (-1) zi_fu (by decide) (by decide) (by decide) (by decide) (by decide)
  refine ⟨b, ?_, ?_, h⟩
  · unfold zf_View_mostLegged
    rw [e1]; rfl
  · unfold zf_M_mostLegs
    rw [e2]; rfl
end YSK
