/-! Ranges of ints, and what each operation makes of them. -/
abbrev zR : Type := Int × Int
def z_in (r : zR) (x : Int32) : Prop := r.1 ≤ x.toInt ∧ x.toInt ≤ r.2
def z_full : zR := (-2147483648, 2147483647)
theorem z_lo (x : Int32) : -2147483648 ≤ x.toInt := by have := x.le_toInt; omega
theorem z_hi (x : Int32) : x.toInt ≤ 2147483647 := by have := x.toInt_lt; omega
theorem z_in_full (x : Int32) : z_in z_full x := ⟨z_lo x, z_hi x⟩
def z_clip (lo hi : Int) : zR := if -2147483648 ≤ lo ∧ hi ≤ 2147483647 then (lo, hi) else z_full
theorem z_bmod {v : Int} (h1 : -2147483648 ≤ v) (h2 : v ≤ 2147483647) : v.bmod (2 ^ 32) = v := by
  apply Int.bmod_eq_of_le <;> omega
theorem z_clip_ok {lo hi v : Int} {x : Int32} (h1 : lo ≤ v) (h2 : v ≤ hi) (hx : x.toInt = v.bmod (2 ^ 32)) : z_in (z_clip lo hi) x := by
  unfold z_clip
  split
  · rename_i h
    rw [z_bmod (by omega) (by omega)] at hx
    exact ⟨by show lo ≤ _; omega, by show _ ≤ hi; omega⟩
  · exact z_in_full x
def z_add (a b : zR) : zR := z_clip (a.1 + b.1) (a.2 + b.2)
theorem z_add_ok {a b : zR} {x y : Int32} (hx : z_in a x) (hy : z_in b y) : z_in (z_add a b) (x + y) :=
  z_clip_ok (v := x.toInt + y.toInt) (by have := hx.1; have := hy.1; omega) (by have := hx.2; have := hy.2; omega) (Int32.toInt_add x y)
def z_sub (a b : zR) : zR := z_clip (a.1 - b.2) (a.2 - b.1)
theorem z_sub_ok {a b : zR} {x y : Int32} (hx : z_in a x) (hy : z_in b y) : z_in (z_sub a b) (x - y) :=
  z_clip_ok (v := x.toInt - y.toInt) (by have := hx.1; have := hy.2; omega) (by have := hx.2; have := hy.1; omega) (Int32.toInt_sub x y)
def z_neg (a : zR) : zR := z_clip (-a.2) (-a.1)
theorem z_neg_ok {a : zR} {x : Int32} (hx : z_in a x) : z_in (z_neg a) (-x) :=
  z_clip_ok (v := -x.toInt) (by have := hx.2; omega) (by have := hx.1; omega) (Int32.toInt_neg x)
def z_min (a b : Int) : Int := if a ≤ b then a else b
def z_max (a b : Int) : Int := if a ≤ b then b else a
theorem z_min_l (a b : Int) : z_min a b ≤ a := by unfold z_min; split <;> omega
theorem z_min_r (a b : Int) : z_min a b ≤ b := by unfold z_min; split <;> omega
theorem z_max_l (a b : Int) : a ≤ z_max a b := by unfold z_max; split <;> omega
theorem z_max_r (a b : Int) : b ≤ z_max a b := by unfold z_max; split <;> omega
def z_mul (a b : zR) : zR := z_clip (z_min (z_min (a.1 * b.1) (a.1 * b.2)) (z_min (a.2 * b.1) (a.2 * b.2))) (z_max (z_max (a.1 * b.1) (a.1 * b.2)) (z_max (a.2 * b.1) (a.2 * b.2)))
theorem z_mul_lin {p q x c : Int} (h1 : p ≤ x) (h2 : x ≤ q) : z_min (p * c) (q * c) ≤ x * c ∧ x * c ≤ z_max (p * c) (q * c) := by
  rcases Int.le_total 0 c with h | h
  · have := Int.mul_le_mul_of_nonneg_right h1 h
    have := Int.mul_le_mul_of_nonneg_right h2 h
    exact ⟨Int.le_trans (z_min_l _ _) (by omega), Int.le_trans (by omega) (z_max_r _ _)⟩
  · have := Int.mul_le_mul_of_nonpos_right h1 h
    have := Int.mul_le_mul_of_nonpos_right h2 h
    exact ⟨Int.le_trans (z_min_r _ _) (by omega), Int.le_trans (by omega) (z_max_l _ _)⟩
theorem z_mul_ok {a b : zR} {x y : Int32} (hx : z_in a x) (hy : z_in b y) : z_in (z_mul a b) (x * y) := by
  have e1 := z_mul_lin (c := y.toInt) hx.1 hx.2
  have e2 := z_mul_lin (c := a.1) hy.1 hy.2
  have e3 := z_mul_lin (c := a.2) hy.1 hy.2
  rw [Int.mul_comm b.1, Int.mul_comm b.2, Int.mul_comm y.toInt] at e2 e3
  have m1 := z_min_l (z_min (a.1 * b.1) (a.1 * b.2)) (z_min (a.2 * b.1) (a.2 * b.2))
  have m2 := z_min_r (z_min (a.1 * b.1) (a.1 * b.2)) (z_min (a.2 * b.1) (a.2 * b.2))
  have m3 := z_max_l (z_max (a.1 * b.1) (a.1 * b.2)) (z_max (a.2 * b.1) (a.2 * b.2))
  have m4 := z_max_r (z_max (a.1 * b.1) (a.1 * b.2)) (z_max (a.2 * b.1) (a.2 * b.2))
  refine z_clip_ok (v := x.toInt * y.toInt) ?_ ?_ (Int32.toInt_mul x y)
  · refine Int.le_trans ?_ e1.1
    unfold z_min at *
    split <;> omega
  · refine Int.le_trans e1.2 ?_
    unfold z_max at *
    split <;> omega
/-- division by a positive constant; else by what is not 0 -/
def z_div (a b : zR) : zR := if b.1 = b.2 ∧ 0 < b.1 then z_clip (a.1.tdiv b.1) (a.2.tdiv b.1) else if 0 ≤ a.1 ∧ 0 < b.1 then (0, z_max 0 a.2) else z_full
theorem z_div_ok {a b : zR} {x y : Int32} (hx : z_in a x) (hy : z_in b y) : z_in (z_div a b) (x / y) := by
  unfold z_div
  split
  · rename_i h
    have hy1 : y.toInt = b.1 := by have := hy.1; have := hy.2; omega
    refine z_clip_ok (v := x.toInt.tdiv y.toInt) ?_ ?_ (Int32.toInt_div x y)
    · rw [hy1]; exact Int.tdiv_le_tdiv h.2 hx.1
    · rw [hy1]; exact Int.tdiv_le_tdiv h.2 hx.2
  · split
    · rename_i h
      have h0 : 0 ≤ x.toInt := by have := hx.1; omega
      have h1 : 0 < y.toInt := by have := hy.1; omega
      have e : (x / y).toInt = x.toInt / y.toInt := by
        rw [Int32.toInt_div, Int.tdiv_eq_ediv_of_nonneg h0]
        have q1 : 0 ≤ x.toInt / y.toInt := Int.ediv_nonneg h0 (by omega)
        have q2 : x.toInt / y.toInt ≤ x.toInt := Int.ediv_le_self _ h0
        exact z_bmod (by omega) (by have := z_hi x; omega)
      have q1 : 0 ≤ x.toInt / y.toInt := Int.ediv_nonneg h0 (by omega)
      have q2 : x.toInt / y.toInt ≤ x.toInt := Int.ediv_le_self _ h0
      exact ⟨by show (0 : Int) ≤ _; omega, by show _ ≤ z_max 0 a.2; have := z_max_r 0 a.2; have := hx.2; omega⟩
    · exact z_in_full _
/-- the rest by what is above 0 -/
def z_rem (a b : zR) : zR := if 0 < b.1 then (if 0 ≤ a.1 then (if a.2 < b.1 then a else (0, z_min (z_max 0 a.2) (b.2 - 1))) else (-(b.2 - 1), if a.2 ≤ 0 then 0 else b.2 - 1)) else z_full
theorem z_rem_int (x y : Int32) (hy : 0 < y.toInt) : (x - x / y * y).toInt = x.toInt.tmod y.toInt := by
  have hd : (x / y).toInt = x.toInt.tdiv y.toInt := by
    rw [Int32.toInt_div]
    have h1 := Int.tdiv_le_tdiv hy (z_lo x)
    have h2 := Int.tdiv_le_tdiv hy (z_hi x)
    have k1 : (2147483647 : Int).tdiv y.toInt ≤ 2147483647 := by
      rw [Int.tdiv_eq_ediv_of_nonneg (by omega)]; exact Int.ediv_le_self _ (by omega)
    have k2 : -2147483648 ≤ (-2147483648 : Int).tdiv y.toInt := by
      have : (-2147483648 : Int).tdiv y.toInt = -((2147483648 : Int).tdiv y.toInt) := Int.neg_tdiv 2147483648 y.toInt
      rw [this, Int.tdiv_eq_ediv_of_nonneg (by omega)]
      have := Int.ediv_le_self y.toInt (a := 2147483648) (by omega)
      omega
    exact z_bmod (by omega) (by omega)
  have hm := Int.tmod_def x.toInt y.toInt
  have hb : -y.toInt < x.toInt.tmod y.toInt ∧ x.toInt.tmod y.toInt < y.toInt := tmod_bounds hy
  have hyh := z_hi y
  rw [Int32.toInt_sub, Int32.toInt_mul, hd, Int.mul_comm (x.toInt.tdiv y.toInt)]
  rw [Int.sub_bmod_bmod, ← hm]
  exact z_bmod (by omega) (by omega)
theorem z_tmod_bounds {a M : Int} (hM : 0 < M) : -M < a.tmod M ∧ a.tmod M < M := tmod_bounds hM
theorem z_rem_ok {a b : zR} {x y : Int32} (hx : z_in a x) (hy : z_in b y) : z_in (z_rem a b) (x - x / y * y) := by
  unfold z_rem
  split
  · rename_i h
    have hy0 : 0 < y.toInt := by have := hy.1; omega
    have e := z_rem_int x y hy0
    obtain ⟨t1, t2⟩ := z_tmod_bounds (a := x.toInt) hy0
    have hb2 := hy.2
    split
    · rename_i h0
      have hx0 : 0 ≤ x.toInt := by have := hx.1; omega
      have n0 : 0 ≤ x.toInt.tmod y.toInt := Int.tmod_nonneg _ hx0
      have n1 : x.toInt.tmod y.toInt ≤ x.toInt := by
        rw [Int.tmod_eq_emod_of_nonneg hx0]
        rw [Int.emod_def]
        have := Int.mul_nonneg (Int.le_of_lt hy0) (Int.ediv_nonneg hx0 (Int.le_of_lt hy0))
        omega
      split
      · rename_i h1
        have : x.toInt.tmod y.toInt = x.toInt := by
          rw [Int.tmod_eq_emod_of_nonneg hx0]
          exact Int.emod_eq_of_lt hx0 (by have := hx.2; have := hy.1; omega)
        exact ⟨by rw [e, this]; exact hx.1, by rw [e, this]; exact hx.2⟩
      · refine ⟨by rw [e]; exact n0, ?_⟩
        rw [e]
        show _ ≤ z_min _ _
        unfold z_min
        have := z_max_r 0 a.2
        have := hx.2
        split <;> omega
    · rename_i h0
      refine ⟨by rw [e]; show -(b.2 - 1) ≤ _; omega, ?_⟩
      rw [e]
      show _ ≤ (if a.2 ≤ 0 then (0 : Int) else b.2 - 1)
      split
      · rename_i h1
        have hx2 := hx.2
        have h3 : x.toInt.tmod y.toInt = -((-x.toInt).tmod y.toInt) := by rw [Int.neg_tmod]; omega
        have : 0 ≤ (-x.toInt).tmod y.toInt := Int.tmod_nonneg _ (by omega)
        omega
      · omega
  · exact z_in_full _
