/-! What is seen: one star, on both sides. -/
def yg_ab (a : Int) : Int := if a < 0 then -a else a
def yg_cb (a b : Int) : Int := if 24 - yg_ab (a - b) < yg_ab (a - b) then 24 - yg_ab (a - b) else yg_ab (a - b)
def yg_tr (a b : Int) : Int := if 12 < (b - a + 24) % 24 then (b - a + 24) % 24 - 24 else (b - a + 24) % 24
theorem ze_Math_ab2 {a : Int} (h1 : -2147483648 < a) (h2 : a ≤ 2147483647) : zf_Math_abs a = some (yg_ab a) := by
  unfold zf_Math_abs yg_ab
  by_cases h : a < 0
  · rw [if_pos h, if_pos h, zi_w_id (by omega) (by omega)]
  · rw [if_neg h, if_neg h]
theorem ze_M_size2 {a : Int} (h1 : -2147483648 < a) (h2 : a ≤ 2147483647) : zf_M_size a = some (yg_ab a) := by
  unfold zf_M_size yg_ab
  by_cases h : a < 0
  · rw [if_pos h, if_pos h, zi_w_id (by omega) (by omega)]
  · rw [if_neg h, if_neg h]
theorem yg_ab_in {a : Int} : 0 ≤ yg_ab a ∧ (yg_ab a = a ∨ yg_ab a = -a) := by
  unfold yg_ab
  split <;> omega
theorem ze_colsBetween {a b : Int} (a1 : 0 ≤ a) (a2 : a ≤ 23) (b1 : 0 ≤ b) (b2 : b ≤ 23) : zf_X_columnsBetween a b = some (yg_cb a b) ∧ 0 ≤ yg_cb a b ∧ yg_cb a b ≤ 12 := by
  have h := yg_ab_in (a := a - b)
  refine ⟨?_, ?_, ?_⟩
  · unfold zf_X_columnsBetween
    rw [zi_w_id (x := a - b) (by omega) (by omega), ze_Math_ab2 (by omega) (by omega), zl_b, zi_w_id (x := 24 - yg_ab (a - b)) (by omega) (by omega), ze_Math_min, zl_b]
    rfl
  · unfold yg_cb; split <;> omega
  · unfold yg_cb; split <;> omega
theorem ze_toRight {a b : Int} (a1 : 0 ≤ a) (a2 : a ≤ 23) (b1 : 0 ≤ b) (b2 : b ≤ 23) : zf_M_toRight a b = some (yg_tr a b) ∧ -11 ≤ yg_tr a b ∧ yg_tr a b ≤ 12 ∧ yg_ab (yg_tr a b) = yg_cb b a := by
  refine ⟨?_, ?_, ?_, ?_⟩
  · unfold zf_M_toRight
    rw [zi_w_id (x := b - a) (by omega) (by omega), zi_w_id (x := b - a + 24) (by omega) (by omega), zi_rem_eq (by omega) (by omega) (by decide) (by decide), zi_w_id (by omega) (by omega)]
    unfold yg_tr
    split <;> rfl
  · unfold yg_tr; split <;> omega
  · unfold yg_tr; split <;> omega
  · unfold yg_tr yg_cb yg_ab
    (repeat' split) <;> omega
theorem ze_way {a b c d : Int} (a1 : 0 ≤ a) (a2 : a ≤ 23) (c1 : 0 ≤ c) (c2 : c ≤ 23) (b1 : 0 ≤ b) (b2 : b ≤ 11) (d1 : 0 ≤ d) (d2 : d ≤ 11) : zf_M_way a b c d = some (yg_cb c a + yg_ab (b - d)) := by
  obtain ⟨e1, e2, e3, e4⟩ := ze_toRight a1 a2 c1 c2
  have h := yg_ab_in (a := b - d)
  have h2 := (ze_colsBetween c1 c2 a1 a2).2
  unfold zf_M_way
  rw [e1, zl_b, ze_M_size2 (by omega) (by omega), zl_b, zi_w_id (x := b - d) (by omega) (by omega), ze_M_size2 (by omega) (by omega), zl_b, e4, zi_w_id (by omega) (by omega)]
/-- the sky on both sides -/
def yk_sky (t h u cl sc sr ch : Int) (co ro br wc wr m : Int → Int) : Prop :=
  (z24 t ∧ m 126 = t) ∧ ((0 ≤ h ∧ h ≤ 23) ∧ m 128 = h) ∧ m 129 = u ∧ (z24 cl ∧ m 130 = cl) ∧ ((0 ≤ sc ∧ sc ≤ 11) ∧ m 131 = sc) ∧ ((0 ≤ sr ∧ sr ≤ 11) ∧ m 132 = sr) ∧ ((0 ≤ ch ∧ ch ≤ 65535) ∧ m 133 = ch) ∧
  ∀ i, 0 ≤ i → i < 24 → ((0 ≤ co i ∧ co i ≤ 23) ∧ (0 ≤ ro i ∧ ro i ≤ 11) ∧ (0 ≤ br i ∧ br i ≤ 9) ∧ (-3 ≤ wc i ∧ wc i ≤ 3) ∧ (-3 ≤ wr i ∧ wr i ≤ 3)) ∧ ((0 ≤ m i ∧ m i ≤ 23) ∧ (0 ≤ m (24 + i) ∧ m (24 + i) ≤ 11) ∧ (0 ≤ m (48 + i) ∧ m (48 + i) ≤ 9) ∧ (-3 ≤ m (72 + i) ∧ m (72 + i) ≤ 3) ∧ (-3 ≤ m (96 + i) ∧ m (96 + i) ≤ 3)) ∧
    (zb t i.toNat = true → m i = co i ∧ m (24 + i) = ro i ∧ m (48 + i) = br i ∧ m (72 + i) = wc i ∧ m (96 + i) = wr i)
/-- the letters for a star, from a place -/
def yv_lt (h u i b r c x y d : Int) : Int → Int := fun j => if j = 0 then h else if j = 1 then u else if j = 2 then i else if j = 3 then b else if j = 4 then r else if j = 5 then c else if j = 10 then x else if j = 11 then y else if j = 12 then d else 0
/-- what lies under, while stars are set -/
def yv_ba (h u x y : Int) (g : Int → Int) : Prop := g 0 = h ∧ g 1 = u ∧ g 6 = 0 ∧ g 7 = 0 ∧ g 8 = 0 ∧ g 9 = 0 ∧ g 10 = x ∧ g 11 = y
theorem yv_13 {P : Int → Prop} (h0 : P 0) (h1 : P 1) (h2 : P 2) (h3 : P 3) (h4 : P 4) (h5 : P 5) (h6 : P 6) (h7 : P 7) (h8 : P 8) (h9 : P 9) (h10 : P 10) (h11 : P 11) (h12 : P 12) : ∀ j, 0 ≤ j → j < 13 → P j := by
  intro j j0 j1
  have : j = 0 ∨ j = 1 ∨ j = 2 ∨ j = 3 ∨ j = 4 ∨ j = 5 ∨ j = 6 ∨ j = 7 ∨ j = 8 ∨ j = 9 ∨ j = 10 ∨ j = 11 ∨ j = 12 := by omega
  rcases this with e | e | e | e | e | e | e | e | e | e | e | e | e <;> subst e <;> assumption
theorem yv_lt_of {h u i b r c x y d : Int} {g : Int → Int} (hg : yv_ba h u x y g) (e2 : g 2 = i) (e3 : g 3 = b) (e4 : g 4 = r) (e5 : g 5 = c) (e12 : g 12 = d) : ∀ j, 0 ≤ j → j < 13 → g j = yv_lt h u i b r c x y d j := by
  obtain ⟨g0, g1, g6, g7, g8, g9, g10, g11⟩ := hg
  exact yv_13 g0 g1 e2 e3 e4 e5 g6 g7 g8 g9 g10 g11 e12
theorem ze_fill13_l0 {v : Int} : ∀ (d : Nat) (j : Int) (g : Int → Int) (n : Nat), j + d = 13 → 0 ≤ j → d < n → ∃ g2, zf_Arrays_fill_13_l0 v 13 n j g = some g2 ∧ (∀ i, j ≤ i → i < 13 → g2 i = v) ∧ ∀ i, i < j → g2 i = g i := by
  intro d
  induction d with
  | zero =>
    intro j g n e j0 hn
    obtain ⟨n, rfl⟩ : ∃ q, n = q + 1 := ⟨n - 1, by omega⟩
    refine ⟨g, ?_, fun i a b => by omega, fun _ _ => rfl⟩
    show zf_Arrays_fill_13_l0_b v 13 (zf_Arrays_fill_13_l0 v 13 n) j g = _
    unfold zf_Arrays_fill_13_l0_b
    rw [if_neg (by omega)]
  | succ d ih =>
    intro j g n e j0 hn
    obtain ⟨n, rfl⟩ : ∃ q, n = q + 1 := ⟨n - 1, by omega⟩
    show ∃ g2, zf_Arrays_fill_13_l0_b v 13 (zf_Arrays_fill_13_l0 v 13 n) j g = some g2 ∧ _
    unfold zf_Arrays_fill_13_l0_b
    rw [if_pos (by omega), zl_ci j0 (by omega), zi_w_id (x := j + 1) (by omega) (by omega)]
    obtain ⟨g2, e2, a, b⟩ := ih (j + 1) (zv_up g j v) n (by omega) (by omega) (by omega)
    refine ⟨g2, e2, fun i i1 i2 => ?_, fun i i1 => ?_⟩
    · by_cases ei : i = j
      · subst ei; rw [b i (by omega), zv_up_s]
      · exact a i (by omega) i2
    · rw [b i (by omega), zv_up_n (by omega)]
theorem ze_forget {g : Int → Int} : ∃ g2, zf_Law_forgetLetters g = some g2 ∧ ∀ i, 0 ≤ i → i < 13 → g2 i = 0 := by
  obtain ⟨g2, e, a, -⟩ := ze_fill13_l0 (v := 0) 13 0 g zi_fu rfl (by decide) (by decide)
  refine ⟨g2, ?_, a⟩
  unfold zf_Law_forgetLetters zf_Arrays_fill_13
  rw [e]; rfl
theorem ze_goTo {x y f0 f1 h u : Int} {g : Int → Int} : ∃ g2, zf_View_goTo x y f0 f1 h u g = some (x, y, g2) ∧ yv_ba h u x y g2 := by
  obtain ⟨g2, e, a⟩ := ze_forget (g := g)
  refine ⟨zv_up (zv_up (zv_up (zv_up g2 0 h) 1 u) 10 x) 11 y, ?_, ?_⟩
  · unfold zf_View_goTo zf_Law_setTime
    rw [e]; rfl
  · have k := fun i h1 h2 => a i h1 h2
    refine ⟨rfl, rfl, ?_, ?_, ?_, ?_, rfl, rfl⟩
    · exact k 6 (by decide) (by decide)
    · exact k 7 (by decide) (by decide)
    · exact k 8 (by decide) (by decide)
    · exact k 9 (by decide) (by decide)
theorem ze_M_feels_l0 : ∀ (d : Nat) (j : Int) (g : Int → Int) (n : Nat), j + d = 13 → 0 ≤ j → d < n → ∃ g2, zf_M_feels_l0 n j g = some g2 ∧ (∀ i, j ≤ i → i < 13 → g2 i = 0) ∧ ∀ i, i < j → g2 i = g i := by
  intro d
  induction d with
  | zero =>
    intro j g n e j0 hn
    obtain ⟨n, rfl⟩ : ∃ q, n = q + 1 := ⟨n - 1, by omega⟩
    refine ⟨g, ?_, fun i a b => by omega, fun _ _ => rfl⟩
    show zf_M_feels_l0_b (zf_M_feels_l0 n) j g = _
    unfold zf_M_feels_l0_b
    rw [if_neg (by omega)]
  | succ d ih =>
    intro j g n e j0 hn
    obtain ⟨n, rfl⟩ : ∃ q, n = q + 1 := ⟨n - 1, by omega⟩
    show ∃ g2, zf_M_feels_l0_b (zf_M_feels_l0 n) j g = some g2 ∧ _
    unfold zf_M_feels_l0_b
    rw [if_pos (by omega), zl_ci j0 (by omega), zi_w_id (x := j + 1) (by omega) (by omega)]
    obtain ⟨g2, e2, a, b⟩ := ih (j + 1) (zv_up g j 0) n (by omega) (by omega) (by omega)
    refine ⟨g2, e2, fun i i1 i2 => ?_, fun i i1 => ?_⟩
    · by_cases ei : i = j
      · subst ei; rw [b i (by omega), zv_up_s]
      · exact a i (by omega) i2
    · rw [b i (by omega), zv_up_n (by omega)]
theorem ze_M_feels {g m : Int → Int} : ∃ g2, zf_M_feels g m = some g2 ∧ g2 0 = m 128 ∧ g2 1 = m 129 ∧ ∀ i, 2 ≤ i → i < 13 → g2 i = 0 := by
  obtain ⟨g2, e, a, -⟩ := ze_M_feels_l0 13 0 g zi_fu rfl (by decide) (by decide)
  refine ⟨zv_up (zv_up g2 0 (m 128)) 1 (m 129), ?_, rfl, rfl, fun i i1 i2 => ?_⟩
  · unfold zf_M_feels
    rw [e]; rfl
  · rw [zv_up_n (by omega), zv_up_n (by omega)]; exact a i (by omega) i2
theorem ze_M_feelsStar {i : Int} {g m : Int → Int} (i1 : 0 ≤ i) (i2 : i < 24) (c1 : 0 ≤ m i) (c2 : m i ≤ 23) (h1 : 0 ≤ m 128) (h2 : m 128 ≤ 23) : ∃ g2, zf_M_feelsStar i g m = some g2 ∧ g2 0 = m 128 ∧ g2 1 = m 129 ∧ g2 2 = i ∧ g2 3 = m (48 + i) ∧ g2 4 = m (24 + i) ∧ g2 5 = (m i + m 128) % 24 ∧ ∀ j, 6 ≤ j → j < 13 → g2 j = 0 := by
  obtain ⟨g2, e, a0, a1, a⟩ := ze_M_feels (g := g) (m := m)
  refine ⟨zv_up (zv_up (zv_up (zv_up g2 2 i) 3 (m (48 + i))) 4 (m (24 + i))) 5 ((m i + m 128) % 24), ?_, a0, a1, rfl, rfl, rfl, rfl, fun j j1 j2 => ?_⟩
  · unfold zf_M_feelsStar
    rw [e, zl_b, zi_w_id (x := 48 + i) (by omega) (by omega), zi_w_id (x := 24 + i) (by omega) (by omega), zl_ci (by omega) (by omega), zl_ci (by omega) (by omega), ze_M_standsAt i1 i2 c1 c2 h1 h2, zl_b]
  · rw [zv_up_n (by omega), zv_up_n (by omega), zv_up_n (by omega), zv_up_n (by omega)]
    exact a j (by omega) j2
theorem ze_M_hasClause_l0 {k nc : Int} {mk : Int → Int} (h14 : nc ≤ 14) : ∀ (d : Nat) (j : Int) (n : Nat), nc - j ≤ d → 0 ≤ j → d < n → (zf_M_hasClause_l0 k nc mk n j = some (.inl ()) ∧ ∀ i, j ≤ i → i < nc → mk i ≠ k) ∨ (zf_M_hasClause_l0 k nc mk n j = some (.inr 1) ∧ ∃ i, j ≤ i ∧ i < nc ∧ mk i = k) := by
  intro d
  induction d with
  | zero =>
    intro j n e j0 hn
    obtain ⟨n, rfl⟩ : ∃ q, n = q + 1 := ⟨n - 1, by omega⟩
    refine Or.inl ⟨?_, fun i a b => by omega⟩
    show zf_M_hasClause_l0_b k nc mk (zf_M_hasClause_l0 k nc mk n) j = _
    unfold zf_M_hasClause_l0_b
    rw [if_neg (by omega)]
  | succ d ih =>
    intro j n e j0 hn
    obtain ⟨n, rfl⟩ : ∃ q, n = q + 1 := ⟨n - 1, by omega⟩
    show (zf_M_hasClause_l0_b k nc mk (zf_M_hasClause_l0 k nc mk n) j = _ ∧ _) ∨ (zf_M_hasClause_l0_b k nc mk (zf_M_hasClause_l0 k nc mk n) j = _ ∧ _)
    unfold zf_M_hasClause_l0_b
    by_cases hj : j < nc
    · rw [if_pos hj, zl_ci j0 (by omega), zi_w_id (x := j + 1) (by omega) (by omega)]
      by_cases h : mk j = k
      · rw [if_pos h]; exact Or.inr ⟨rfl, j, Int.le_refl _, hj, h⟩
      · rw [if_neg h]
        rcases ih (j + 1) n (by omega) (by omega) (by omega) with ⟨a, b⟩ | ⟨a, i, b1, b2, b3⟩
        · exact Or.inl ⟨a, fun i i1 i2 => by
            by_cases e : i = j
            · subst e; exact h
            · exact b i (by omega) i2⟩
        · exact Or.inr ⟨a, i, by omega, b2, b3⟩
    · rw [if_neg hj]; exact Or.inl ⟨rfl, fun i a b => by omega⟩
theorem ze_M_hasClause {L : zLW} {K V kd fr hf to C mk mf mh mt : Int → Int} {nc tS tL sP lP mc : Int} (R : yl_R L K V nc tS tL sP lP kd fr hf to mc C mk mf mh mt) : zf_M_hasClause 118 mc mk = some tS ∧ (tS = 0 ∨ tS = 1) := by
  obtain ⟨⟨r1, r2, r3, r4⟩, r5, st, r6, r7, ⟨⟨t1, -⟩, -⟩, r9⟩ := R
  refine ⟨?_, by rcases t1 with ⟨h, _⟩ | ⟨h, _⟩ <;> omega⟩
  unfold zf_M_hasClause
  rcases ze_M_hasClause_l0 (k := 118) (mk := mk) (show mc ≤ 14 by omega) mc.toNat 0 zi_fu (by omega) (by decide) (by have : 1000 < zi_fu := (by decide); omega) with ⟨a, b⟩ | ⟨a, i, b1, b2, b3⟩
  · rw [a, zl_b]
    rcases t1 with ⟨h, q, q1, q2, q3⟩ | ⟨h, _⟩
    · exact absurd ((r5 q q1 (by omega)).2.1.trans q3) (b q q1 (by omega))
    · rw [h]; rfl
  · rw [a, zl_b]
    rcases t1 with ⟨h, _⟩ | ⟨h, hn⟩
    · rw [h]; rfl
    · exact absurd ((r5 i b1 (by omega)).2.1.symm.trans b3) (hn i b1 (by omega))
