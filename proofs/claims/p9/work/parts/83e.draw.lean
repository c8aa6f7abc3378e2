/-! All lines from a place, on both sides the same. -/
/-- whether there is a line between two, in a set of the seen, by a law -/
def yv_lk (s : Int) (D : Nat → Nat → Bool) (i j : Nat) : Bool := (decide (i ≠ j) && (zb s i && zb s j)) && D (min i j) (max i j)
def yv_pr (a b p q : Nat) : Bool := decide (p < a ∨ (p = a ∧ q < b))
def yv_jn (s : Int) (D : Nat → Nat → Bool) (G : Int → Int) (a b : Nat) : Prop := ∀ i : Nat, i < 24 → z24 (G i) ∧ ∀ j : Nat, zb (G i) j = (decide (j < 24) && (yv_lk s D i j && yv_pr a b (min i j) (max i j)))
/-- rows of lines -/
def yv_il (s : Int) (D : Nat → Nat → Bool) (G : Int → Int) : Prop := ∀ i : Nat, i < 24 → z24 (G i) ∧ ∀ j : Nat, zb (G i) j = (decide (j < 24) && yv_lk s D i j)
theorem yv_il_eq {s : Int} {D : Nat → Nat → Bool} {G H : Int → Int} (a : yv_il s D G) (b : yv_il s D H) : ∀ i : Int, 0 ≤ i → i < 24 → G i = H i := fun i i0 i1 => by
  obtain ⟨a1, a2⟩ := a i.toNat (by omega)
  obtain ⟨b1, b2⟩ := b i.toNat (by omega)
  rw [show ((i.toNat : Nat) : Int) = i by omega] at a1 a2 b1 b2
  exact z24_ext a1 b1 fun j _ => by rw [a2, b2]
section YVJ
variable {s : Int} {D : Nat → Nat → Bool} {G : Int → Int} {a b : Nat}
theorem yv_pr_s {p q : Nat} (h : ¬ (p = a ∧ q = b)) : yv_pr a (b + 1) p q = yv_pr a b p q := by
  unfold yv_pr
  by_cases e : p < a ∨ (p = a ∧ q < b)
  · rw [decide_eq_true e, decide_eq_true (by omega)]
  · rw [decide_eq_false e, decide_eq_false (by omega)]
theorem yv_jn_yes (h : yv_jn s D G a b) (ab : a < b) (hb : b < 24) (ha : zb s a = true) (hsb : zb s b = true) (hd : D a b = true) : yv_jn s D (zv_up (zv_up G a (zi_or (G a) (zi_shl 1 b))) b (zi_or (zv_up G a (zi_or (G a) (zi_shl 1 b)) b) (zi_shl 1 a))) a (b + 1) := by
  intro i hi
  obtain ⟨h1, h2⟩ := h i hi
  by_cases eb : i = b
  · subst eb
    rw [zv_up_s, zv_up_n (show ((i : Nat) : Int) ≠ (a : Int) by omega)]
    refine ⟨z24_or h1 (z24_shl (by omega) (by omega)), fun j => ?_⟩
    rw [zb_or, zb_shl (by omega) (by omega), h2]
    by_cases ej : j = a
    · subst ej
      rw [show ((j : Nat) : Int).toNat = j by omega, decide_eq_true rfl, Bool.or_true, decide_eq_true (by omega : j < 24)]
      unfold yv_lk yv_pr
      rw [show min i j = j by omega, show max i j = i by omega, hd, ha, hsb, decide_eq_true (by omega : i ≠ j), decide_eq_true (by omega : j < j ∨ (j = j ∧ i < i + 1))]
      rfl
    · rw [decide_eq_false (show ¬ j = ((a : Nat) : Int).toNat by omega), Bool.or_false, yv_pr_s (by omega)]
  · rw [zv_up_n (show ((i : Nat) : Int) ≠ (b : Int) by omega)]
    by_cases ea : i = a
    · subst ea
      rw [zv_up_s]
      refine ⟨z24_or h1 (z24_shl (by omega) (by omega)), fun j => ?_⟩
      rw [zb_or, zb_shl (by omega) (by omega), h2]
      by_cases ej : j = b
      · subst ej
        rw [show ((j : Nat) : Int).toNat = j by omega, decide_eq_true rfl, Bool.or_true, decide_eq_true (by omega : j < 24)]
        unfold yv_lk yv_pr
        rw [show min i j = i by omega, show max i j = j by omega, hd, ha, hsb, decide_eq_true (by omega : i ≠ j), decide_eq_true (by omega : i < i ∨ (i = i ∧ j < j + 1))]
        rfl
      · rw [decide_eq_false (show ¬ j = ((b : Nat) : Int).toNat by omega), Bool.or_false, yv_pr_s (by omega)]
    · rw [zv_up_n (show ((i : Nat) : Int) ≠ (a : Int) by omega)]
      exact ⟨h1, fun j => by rw [h2, yv_pr_s (by omega)]⟩
theorem yv_jn_no (h : yv_jn s D G a b) (ab : a < b) (hn : ¬ (zb s a = true ∧ zb s b = true ∧ D a b = true)) : yv_jn s D G a (b + 1) := by
  intro i hi
  obtain ⟨h1, h2⟩ := h i hi
  refine ⟨h1, fun j => ?_⟩
  rw [h2]
  by_cases e : min i j = a ∧ max i j = b
  · have hk : yv_lk s D i j = false := by
      apply Bool.eq_false_iff.mpr
      intro hk
      unfold yv_lk at hk
      rw [Bool.and_eq_true, Bool.and_eq_true, Bool.and_eq_true, e.1, e.2] at hk
      apply hn
      obtain ⟨⟨k1, k2, k3⟩, k4⟩ := hk
      by_cases hij : i < j
      · have ei : i = a := by omega
        have ej : j = b := by omega
        rw [← ei, ← ej]
        rw [← ei, ← ej] at k4
        exact ⟨k2, k3, k4⟩
      · have ei : i = b := by omega
        have ej : j = a := by omega
        rw [← ei, ← ej]
        rw [← ei, ← ej] at k4
        exact ⟨k3, k2, k4⟩
    rw [hk, Bool.false_and, Bool.false_and]
  · rw [yv_pr_s e]
theorem yv_jn_end (h : yv_jn s D G a b) (hb : 24 ≤ b) : yv_jn s D G (a + 1) (a + 2) := by
  intro i hi
  obtain ⟨h1, h2⟩ := h i hi
  refine ⟨h1, fun j => ?_⟩
  rw [h2]
  by_cases hj : j < 24
  · by_cases e : i = j
    · have hk : yv_lk s D i j = false := by
        unfold yv_lk
        rw [decide_eq_false (fun hh => hh e), Bool.false_and, Bool.false_and]
      rw [hk, Bool.false_and, Bool.false_and]
    · congr 2
      unfold yv_pr
      by_cases q : min i j < a ∨ (min i j = a ∧ max i j < b)
      · rw [decide_eq_true q, decide_eq_true (by omega)]
      · rw [decide_eq_false q, decide_eq_false (by omega)]
  · rw [decide_eq_false hj, Bool.false_and, Bool.false_and]
theorem yv_jn_un (h : yv_jn s D G a b) (ha : ¬ zb s a = true) : yv_jn s D G a 24 := by
  intro i hi
  obtain ⟨h1, h2⟩ := h i hi
  refine ⟨h1, fun j => ?_⟩
  rw [h2]
  by_cases e : min i j = a
  · have hk : yv_lk s D i j = false := by
      apply Bool.eq_false_iff.mpr
      intro hk
      unfold yv_lk at hk
      rw [Bool.and_eq_true, Bool.and_eq_true, Bool.and_eq_true] at hk
      obtain ⟨⟨k1, k2, k3⟩, -⟩ := hk
      apply ha
      by_cases hij : i < j
      · rw [show a = i by omega]; exact k2
      · rw [show a = j by omega]; exact k3
    rw [hk, Bool.false_and, Bool.false_and]
  · congr 2
    unfold yv_pr
    by_cases q : min i j < a
    · rw [decide_eq_true (Or.inl q), decide_eq_true (Or.inl q)]
    · rw [decide_eq_false (by omega), decide_eq_false (by omega)]
theorem yv_jn_il (h : yv_jn s D G a b) (ha : 24 ≤ a) : yv_il s D G := by
  intro i hi
  obtain ⟨h1, h2⟩ := h i hi
  refine ⟨h1, fun j => ?_⟩
  rw [h2]
  by_cases hj : j < 24
  · have : yv_pr a b (min i j) (max i j) = true := decide_eq_true (Or.inl (by omega))
    rw [this, Bool.and_true]
  · rw [decide_eq_false hj, Bool.false_and, Bool.false_and]
theorem yv_jn_0 (h : ∀ i : Nat, i < 24 → G i = 0) : yv_jn s D G 0 1 := by
  intro i hi
  rw [h i hi]
  refine ⟨z24_0, fun j => ?_⟩
  rw [zb_0]
  symm
  by_cases e : i = j
  · have hk : yv_lk s D i j = false := by
      unfold yv_lk
      rw [decide_eq_false (fun hh => hh e), Bool.false_and, Bool.false_and]
    rw [hk, Bool.false_and, Bool.and_false]
  · have : yv_pr 0 1 (min i j) (max i j) = false := decide_eq_false (by omega)
    rw [this, Bool.and_false, Bool.and_false]
end YVJ
def yv_D (L : zLW) (h u : Int) (co ro br : Int → Int) (x y : Int) (a b : Nat) : Bool := yv_dr L h u co ro br x y a b
theorem ze_fill24_l0 {v : Int} : ∀ (d : Nat) (j : Int) (g : Int → Int) (n : Nat), j + d = 24 → 0 ≤ j → d < n → ∃ g2, zf_Arrays_fill_24_l0 v 24 n j g = some g2 ∧ (∀ i, j ≤ i → i < 24 → g2 i = v) ∧ ∀ i, i < j → g2 i = g i := by
  intro d
  induction d with
  | zero =>
    intro j g n e j0 hn
    obtain ⟨n, rfl⟩ : ∃ q, n = q + 1 := ⟨n - 1, by omega⟩
    refine ⟨g, ?_, fun i a b => by omega, fun _ _ => rfl⟩
    show zf_Arrays_fill_24_l0_b v 24 (zf_Arrays_fill_24_l0 v 24 n) j g = _
    unfold zf_Arrays_fill_24_l0_b
    rw [if_neg (by omega)]
  | succ d ih =>
    intro j g n e j0 hn
    obtain ⟨n, rfl⟩ : ∃ q, n = q + 1 := ⟨n - 1, by omega⟩
    show ∃ g2, zf_Arrays_fill_24_l0_b v 24 (zf_Arrays_fill_24_l0 v 24 n) j g = some g2 ∧ _
    unfold zf_Arrays_fill_24_l0_b
    rw [if_pos (by omega), zl_ci j0 (by omega), zi_w_id (x := j + 1) (by omega) (by omega)]
    obtain ⟨g2, e2, a, b⟩ := ih (j + 1) (zv_up g j v) n (by omega) (by omega) (by omega)
    refine ⟨g2, e2, fun i i1 i2 => ?_, fun i i1 => ?_⟩
    · by_cases ei : i = j
      · subst ei; rw [b i (by omega), zv_up_s]
      · exact a i (by omega) i2
    · rw [b i (by omega), zv_up_n (by omega)]
theorem ze_fill24 {v : Int} {g : Int → Int} : ∃ g2, zf_Arrays_fill_24 v g = some g2 ∧ ∀ i, 0 ≤ i → i < 24 → g2 i = v := by
  obtain ⟨g2, e, a, -⟩ := ze_fill24_l0 (v := v) 24 0 g zi_fu rfl (by decide) (by decide)
  refine ⟨g2, ?_, a⟩
  unfold zf_Arrays_fill_24
  rw [e]; rfl
section YVX
variable {L : zLW} {K V kd fr hf to C mk mf mh mt : Int → Int} {nc tS tL sP lP mc : Int} {t h u cl sc sr ch x y s : Int} {co ro br wc wr m : Int → Int}
theorem yx_draw_l1 (R : yl_R L K V nc tS tL sP lP kd fr hf to mc C mk mf mh mt) (k : yk_sky t h u cl sc sr ch co ro br wc wr m) {a : Nat} (ha : a < 24) : ∀ (d b : Nat) (f : Int) (J g pa ph S : Int → Int) (n : Nat), 24 - b ≤ d → a < b → b ≤ 24 → d < n → yv_jn s (yv_D L h u co ro br x y) J a b → yv_bj h u x y g → yv_cp L lP h u co ro br pa ph →
    ∃ f' J' g' pa' ph' S', zf_View_draw_l1 (a : Int) h s nc lP br ro co kd hf to K V n (b : Int) f J g pa ph S = some (f', J', g', pa', ph', S') ∧ yv_jn s (yv_D L h u co ro br x y) J' a 24 ∧ yv_bj h u x y g' ∧ yv_cp L lP h u co ro br pa' ph' := by
  intro d
  induction d with
  | zero =>
    intro b f J g pa ph S n hd hab hb hn hj hg hc
    obtain ⟨n, rfl⟩ : ∃ q, n = q + 1 := ⟨n - 1, by omega⟩
    refine ⟨f, J, g, pa, ph, S, ?_, ?_, hg, hc⟩
    · show zf_View_draw_l1_b (a : Int) h s nc lP br ro co kd hf to K V (zf_View_draw_l1 (a : Int) h s nc lP br ro co kd hf to K V n) (b : Int) f J g pa ph S = _
      unfold zf_View_draw_l1_b
      rw [if_neg (by omega)]
    · rw [show (24 : Nat) = b by omega]; exact hj
  | succ d ih =>
    intro b f J g pa ph S n hd hab hb hn hj hg hc
    obtain ⟨n, rfl⟩ : ∃ q, n = q + 1 := ⟨n - 1, by omega⟩
    show ∃ f' J' g' pa' ph' S', zf_View_draw_l1_b (a : Int) h s nc lP br ro co kd hf to K V (zf_View_draw_l1 (a : Int) h s nc lP br ro co kd hf to K V n) (b : Int) f J g pa ph S = _ ∧ _
    unfold zf_View_draw_l1_b
    by_cases hb2 : b < 24
    · rw [if_pos (by omega), zi_w_id (x := (b : Int) + 1) (by omega) (by omega)]
      have ea : ((a : Nat) : Int).toNat = a := by omega
      have eb : ((b : Nat) : Int).toNat = b := by omega
      by_cases hsa : zb s a = true
      · rw [zb_bit1 (by omega) (by omega) (by rw [ea]; exact hsa), if_neg (show ¬ (1 : Int) = 0 by decide)]
        by_cases hsb : zb s b = true
        · rw [zb_bit1 (by omega) (by omega) (by rw [eb]; exact hsb), if_neg (show ¬ (1 : Int) = 0 by decide)]
          obtain ⟨-, ⟨⟨h1, h2⟩, -⟩, -, -, -, -, -, ki⟩ := id k
          obtain ⟨f', pa', ph', g', S', e1, hg', hc'⟩ := yx_isDrawn (f4 := f) (S := S) R h1 h2 (show 0 ≤ (a : Int) by omega) (by omega) (show 0 ≤ (b : Int) by omega) (by omega) (fun i i0 i1 => ⟨(ki i i0 i1).1.1, (ki i i0 i1).1.2.1⟩) hg hc
          rw [e1, zl_b]
          by_cases hd2 : yv_dr L h u co ro br x y a b = true
          · rw [if_pos hd2, if_neg (show ¬ (1 : Int) = 0 by decide), zl_ci (by omega) (by omega), zl_ci (by omega) (by omega)]
            exact ih (b + 1) f' _ g' pa' ph' S' n (by omega) (by omega) (by omega) (by omega) (yv_jn_yes hj hab hb2 hsa hsb hd2) hg' hc'
          · rw [if_neg hd2, if_pos rfl]
            exact ih (b + 1) f' J g' pa' ph' S' n (by omega) (by omega) (by omega) (by omega) (yv_jn_no hj hab (fun q => hd2 q.2.2)) hg' hc'
        · rw [zb_bit0 (by omega) (by omega) (by rw [eb]; exact hsb), if_pos rfl]
          exact ih (b + 1) f J g pa ph S n (by omega) (by omega) (by omega) (by omega) (yv_jn_no hj hab (fun q => hsb q.2.1)) hg hc
      · rw [zb_bit0 (by omega) (by omega) (by rw [ea]; exact hsa), if_pos rfl]
        exact ⟨f, J, g, pa, ph, S, rfl, yv_jn_un hj hsa, hg, hc⟩
    · rw [if_neg (by omega)]
      refine ⟨f, J, g, pa, ph, S, rfl, ?_, hg, hc⟩
      rw [show (24 : Nat) = b by omega]; exact hj
theorem yx_draw_l0 (R : yl_R L K V nc tS tL sP lP kd fr hf to mc C mk mf mh mt) (k : yk_sky t h u cl sc sr ch co ro br wc wr m) : ∀ (d a : Nat) (f : Int) (J g pa ph S : Int → Int) (n : Nat), a + d = 24 → d < n → yv_jn s (yv_D L h u co ro br x y) J a (a + 1) → yv_bj h u x y g → yv_cp L lP h u co ro br pa ph →
    ∃ f' J' g' pa' ph' S', zf_View_draw_l0 h s nc lP br ro co kd hf to K V n (a : Int) f J g pa ph S = some (f', J', g', pa', ph', S') ∧ yv_il s (yv_D L h u co ro br x y) J' ∧ yv_cp L lP h u co ro br pa' ph' := by
  intro d
  induction d with
  | zero =>
    intro a f J g pa ph S n e hn hj hg hc
    obtain ⟨n, rfl⟩ : ∃ q, n = q + 1 := ⟨n - 1, by omega⟩
    refine ⟨f, J, g, pa, ph, S, ?_, yv_jn_il hj (by omega), hc⟩
    show zf_View_draw_l0_b h s nc lP br ro co kd hf to K V (zf_View_draw_l0 h s nc lP br ro co kd hf to K V n) (a : Int) f J g pa ph S = _
    unfold zf_View_draw_l0_b
    rw [if_neg (by omega)]
  | succ d ih =>
    intro a f J g pa ph S n e hn hj hg hc
    obtain ⟨n, rfl⟩ : ∃ q, n = q + 1 := ⟨n - 1, by omega⟩
    obtain ⟨f', J', g', pa', ph', S', e1, hj', hg', hc'⟩ := yx_draw_l1 (s := s) (x := x) (y := y) R k (show a < 24 by omega) 24 (a + 1) f J g pa ph S zi_fu (by omega) (by omega) (by omega) (by decide) hj hg hc
    show ∃ f' J' g' pa' ph' S', zf_View_draw_l0_b h s nc lP br ro co kd hf to K V (zf_View_draw_l0 h s nc lP br ro co kd hf to K V n) (a : Int) f J g pa ph S = _ ∧ _
    unfold zf_View_draw_l0_b
    rw [if_pos (by omega), zi_w_id (x := (a : Int) + 1) (by omega) (by omega)]
    show ∃ f' J' g' pa' ph' S', ((zf_View_draw_l1 (a : Int) h s nc lP br ro co kd hf to K V zi_fu ((a + 1 : Nat) : Int) f J g pa ph S).bind _) = _ ∧ _
    rw [e1, zl_b]
    exact ih (a + 1) f' J' g' pa' ph' S' n (by omega) (by omega) (yv_jn_end hj' (by decide)) hg' hc'
theorem yv_nol (R : yl_R L K V nc tS tL sP lP kd fr hf to mc C mk mf mh mt) (h0 : tL = 0) {a b : Nat} : yv_D L h u co ro br x y a b = false := by
  obtain ⟨⟨r1, r2, r3, r4⟩, r5, st, r6, r7, ⟨⟨-, t2⟩, -⟩, r9⟩ := R
  rcases t2 with ⟨q, _⟩ | ⟨_, q⟩
  · omega
  · exact yl_any_0 q (by omega)
theorem yx_draw (R : yl_R L K V nc tS tL sP lP kd fr hf to mc C mk mf mh mt) (k : yk_sky t h u cl sc sr ch co ro br wc wr m) {f : Int} {J g pa ph S : Int → Int} (hc : yv_cp L lP h u co ro br pa ph) :
    ∃ f' J' g' pa' ph' S', zf_View_draw tL x y h u s nc f lP J g pa ph br ro co kd hf to K S V = some (x, y, f', J', g', pa', ph', S') ∧ yv_il s (yv_D L h u co ro br x y) J' ∧ yv_cp L lP h u co ro br pa' ph' := by
  obtain ⟨J0, e0, hJ0⟩ := ze_fill24 (v := 0) (g := J)
  unfold zf_View_draw
  rw [e0, zl_b]
  by_cases h0 : tL = 0
  · rw [if_pos h0]
    refine ⟨f, J0, g, pa, ph, S, rfl, fun i hi => ?_, hc⟩
    rw [hJ0 i (by omega) (by omega)]
    refine ⟨z24_0, fun j => ?_⟩
    unfold yv_lk
    rw [zb_0, yv_nol R h0, Bool.and_false, Bool.and_false]
  · rw [if_neg h0]
    obtain ⟨g1, eg, hg⟩ := ze_goTo (x := x) (y := y) (f0 := x) (f1 := y) (h := h) (u := u) (g := g)
    rw [eg, zl_b]
    obtain ⟨f', J', g', pa', ph', S', e1, e2, e3⟩ := yx_draw_l0 (s := s) R k 24 0 f J0 g1 pa ph S zi_fu rfl (by decide) (yv_jn_0 fun i hi => hJ0 i (by omega) (by omega)) ⟨hg.1, hg.2.1, hg.2.2.2.2.2.2.1, hg.2.2.2.2.2.2.2⟩ hc
    refine ⟨f', J', g', pa', ph', S', ?_, e2, e3⟩
    show ((zf_View_draw_l0 h s nc lP br ro co kd hf to K V zi_fu 0 f J0 g1 pa ph S).bind _) = _
    rw [show zf_View_draw_l0 h s nc lP br ro co kd hf to K V zi_fu 0 f J0 g1 pa ph S = _ from e1, zl_b]
theorem ym_looks_l0 : ∀ (d : Nat) (j : Int) (g : Int → Int) (n : Nat), j + d = 24 → 0 ≤ j → d < n → ∃ g2, zf_M_looks_l0 n j g = some g2 ∧ (∀ i, j ≤ i → i < 24 → g2 i = 0) ∧ ∀ i, i < j → g2 i = g i := by
  intro d
  induction d with
  | zero =>
    intro j g n e j0 hn
    obtain ⟨n, rfl⟩ : ∃ q, n = q + 1 := ⟨n - 1, by omega⟩
    refine ⟨g, ?_, fun i a b => by omega, fun _ _ => rfl⟩
    show zf_M_looks_l0_b (zf_M_looks_l0 n) j g = _
    unfold zf_M_looks_l0_b
    rw [if_neg (by omega)]
  | succ d ih =>
    intro j g n e j0 hn
    obtain ⟨n, rfl⟩ : ∃ q, n = q + 1 := ⟨n - 1, by omega⟩
    show ∃ g2, zf_M_looks_l0_b (zf_M_looks_l0 n) j g = some g2 ∧ _
    unfold zf_M_looks_l0_b
    rw [if_pos (by omega), zl_ci j0 (by omega), zi_w_id (x := j + 1) (by omega) (by omega)]
    obtain ⟨g2, e2, a, b⟩ := ih (j + 1) (zv_up g j 0) n (by omega) (by omega) (by omega)
    refine ⟨g2, e2, fun i i1 i2 => ?_, fun i i1 => ?_⟩
    · by_cases ei : i = j
      · subst ei; rw [b i (by omega), zv_up_s]
      · exact a i (by omega) i2
    · rw [b i (by omega), zv_up_n (by omega)]
theorem ym_looks_l2 (R : yl_R L K V nc tS tL sP lP kd fr hf to mc C mk mf mh mt) (k : yk_sky t h u cl sc sr ch co ro br wc wr m) (hs : z24 s) (hst : ∀ j : Nat, zb s j = true → zb t j = true) (x1 : 0 ≤ x) (x2 : x ≤ 23) (y1 : 0 ≤ y) (y2 : y ≤ 11) {a : Nat} (ha : a < 24) : ∀ (d b : Nat) (g S J : Int → Int) (n : Nat), 24 - b ≤ d → a < b → b ≤ 24 → d < n → yv_jn s (yv_D L h u co ro br x y) J a b →
    ∃ g' S' J', zf_M_looks_l2 (24 * y + x) (a : Int) mc s m mk mh mt C n (b : Int) g S J = some (g', S', J') ∧ yv_jn s (yv_D L h u co ro br x y) J' a 24 := by
  intro d
  induction d with
  | zero =>
    intro b g S J n hd hab hb hn hj
    obtain ⟨n, rfl⟩ : ∃ q, n = q + 1 := ⟨n - 1, by omega⟩
    refine ⟨g, S, J, ?_, ?_⟩
    · show zf_M_looks_l2_b (24 * y + x) (a : Int) mc s m mk mh mt C (zf_M_looks_l2 (24 * y + x) (a : Int) mc s m mk mh mt C n) (b : Int) g S J = _
      unfold zf_M_looks_l2_b
      rw [if_neg (by omega)]
    · rw [show (24 : Nat) = b by omega]; exact hj
  | succ d ih =>
    intro b g S J n hd hab hb hn hj
    obtain ⟨n, rfl⟩ : ∃ q, n = q + 1 := ⟨n - 1, by omega⟩
    have sin : 0 ≤ s ∧ s ≤ 2147483647 := ⟨hs.1, by have := hs.2; omega⟩
    show ∃ g' S' J', zf_M_looks_l2_b (24 * y + x) (a : Int) mc s m mk mh mt C (zf_M_looks_l2 (24 * y + x) (a : Int) mc s m mk mh mt C n) (b : Int) g S J = _ ∧ _
    unfold zf_M_looks_l2_b
    by_cases hb2 : b < 24
    · have ea : ((a : Nat) : Int).toNat = a := by omega
      have eb : ((b : Nat) : Int).toNat = b := by omega
      rw [if_pos (by omega), zi_w_id (x := (b : Int) + 1) (by omega) (by omega), ze_M_has sin.1 sin.2 (show 0 ≤ (a : Int) by omega) (by omega), zl_b, zb_tb2 sin.1 sin.2, ea]
      by_cases hsa : zb s a = true
      · rw [if_pos hsa, if_neg (show ¬ (1 : Int) = 0 by decide), ze_M_has sin.1 sin.2 (show 0 ≤ (b : Int) by omega) (by omega), zl_b, zb_tb2 sin.1 sin.2, eb]
        by_cases hsb : zb s b = true
        · rw [if_pos hsb, if_neg (show ¬ (1 : Int) = 0 by decide)]
          obtain ⟨g', S', e1⟩ := ym_isDrawn (g := g) (S := S) R k (show 0 ≤ (a : Int) by omega) (by omega) (show 0 ≤ (b : Int) by omega) (by omega) (by rw [ea]; exact hst a hsa) (by rw [eb]; exact hst b hsb) x1 x2 y1 y2
          rw [e1, zl_b]
          by_cases hd2 : yv_dr L h u co ro br x y a b = true
          · rw [if_pos hd2, if_neg (show ¬ (1 : Int) = 0 by decide), zl_ci (by omega) (by omega), zl_ci (by omega) (by omega)]
            exact ih (b + 1) g' S' _ n (by omega) (by omega) (by omega) (by omega) (yv_jn_yes hj hab hb2 hsa hsb hd2)
          · rw [if_neg hd2, if_pos rfl]
            exact ih (b + 1) g' S' J n (by omega) (by omega) (by omega) (by omega) (yv_jn_no hj hab (fun q => hd2 q.2.2))
        · rw [if_neg hsb, if_pos rfl]
          exact ih (b + 1) g S J n (by omega) (by omega) (by omega) (by omega) (yv_jn_no hj hab (fun q => hsb q.2.1))
      · rw [if_neg hsa, if_pos rfl]
        exact ⟨g, S, J, rfl, yv_jn_un hj hsa⟩
    · rw [if_neg (by omega)]
      refine ⟨g, S, J, rfl, ?_⟩
      rw [show (24 : Nat) = b by omega]; exact hj
theorem ym_looks_l1 (R : yl_R L K V nc tS tL sP lP kd fr hf to mc C mk mf mh mt) (k : yk_sky t h u cl sc sr ch co ro br wc wr m) (hs : z24 s) (hst : ∀ j : Nat, zb s j = true → zb t j = true) (x1 : 0 ≤ x) (x2 : x ≤ 23) (y1 : 0 ≤ y) (y2 : y ≤ 11) : ∀ (d a : Nat) (g S J : Int → Int) (n : Nat), a + d = 24 → d < n → yv_jn s (yv_D L h u co ro br x y) J a (a + 1) →
    ∃ g' S' J', zf_M_looks_l1 (24 * y + x) mc s m mk mh mt C n (a : Int) g S J = some (g', S', J') ∧ yv_il s (yv_D L h u co ro br x y) J' := by
  intro d
  induction d with
  | zero =>
    intro a g S J n e hn hj
    obtain ⟨n, rfl⟩ : ∃ q, n = q + 1 := ⟨n - 1, by omega⟩
    refine ⟨g, S, J, ?_, yv_jn_il hj (by omega)⟩
    show zf_M_looks_l1_b (24 * y + x) mc s m mk mh mt C (zf_M_looks_l1 (24 * y + x) mc s m mk mh mt C n) (a : Int) g S J = _
    unfold zf_M_looks_l1_b
    rw [if_neg (by omega)]
  | succ d ih =>
    intro a g S J n e hn hj
    obtain ⟨n, rfl⟩ : ∃ q, n = q + 1 := ⟨n - 1, by omega⟩
    obtain ⟨g', S', J', e1, hj'⟩ := ym_looks_l2 R k hs hst x1 x2 y1 y2 (show a < 24 by omega) 24 (a + 1) g S J zi_fu (by omega) (by omega) (by omega) (by decide) hj
    show ∃ g' S' J', zf_M_looks_l1_b (24 * y + x) mc s m mk mh mt C (zf_M_looks_l1 (24 * y + x) mc s m mk mh mt C n) (a : Int) g S J = _ ∧ _
    unfold zf_M_looks_l1_b
    rw [if_pos (by omega), zi_w_id (x := (a : Int) + 1) (by omega) (by omega)]
    show ∃ g' S' J', ((zf_M_looks_l2 (24 * y + x) (a : Int) mc s m mk mh mt C zi_fu ((a + 1 : Nat) : Int) g S J).bind _) = _ ∧ _
    rw [e1, zl_b]
    exact ih (a + 1) g' S' J' n (by omega) (by omega) (yv_jn_end hj' (by decide))
theorem ym_looks (R : yl_R L K V nc tS tL sP lP kd fr hf to mc C mk mf mh mt) (k : yk_sky t h u cl sc sr ch co ro br wc wr m) (x1 : 0 ≤ x) (x2 : x ≤ 23) (y1 : 0 ≤ y) (y2 : y ≤ 11) {f1 : Int} {g S J : Int → Int} :
    ∃ s' g' S' J', zf_M_looks (24 * y + x) mc f1 m mk g mh mt C S J = some (s', g', S', J') ∧ yv_is L tS t h u cl sc sr co ro br x y s' ∧ yv_il s' (yv_D L h u co ro br x y) J' := by
  obtain ⟨s', g', S', e1, e2⟩ := ym_seenFrom (g := g) (S := S) R k x1 x2 y1 y2
  obtain ⟨J0, e0, hJ0, -⟩ := ym_looks_l0 24 0 J zi_fu rfl (by decide) (by decide)
  obtain ⟨g2, S2, J2, e3, e4⟩ := ym_looks_l1 R k e2.1 (fun j hj => by
    rw [e2.2 j, Bool.and_eq_true, Bool.and_eq_true] at hj
    exact hj.2.1) x1 x2 y1 y2 24 0 g' S' J0 zi_fu rfl (by decide) (yv_jn_0 fun i hi => hJ0 i (by omega) (by omega))
  refine ⟨s', g2, S2, J2, ?_, e2, e4⟩
  unfold zf_M_looks
  rw [e1, zl_b, e0, zl_b, show zf_M_looks_l1 (24 * y + x) mc s' m mk mh mt C zi_fu 0 g' S' J0 = _ from e3, zl_b]
end YVX
