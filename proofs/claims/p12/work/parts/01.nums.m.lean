/-! 01.nums, 02.bits, 03.shifts, 04.state, 04c.frozen, 05.sat, 06.pure, 07.pure2, 08.jumps, 09.switch -/
section
/-! Ranges of ints, and what each operation makes of them. -/
abbrev zR : Type := Int × Int
def z_in (r : zR) (x : Int32) : Prop := r.1 ≤ x.toInt ∧ x.toInt ≤ r.2
def z_full : zR := (-2147483648, 2147483647)
theorem z_lo (x : Int32) : -2147483648 ≤ x.toInt := by have := x.le_toInt; omega
theorem z_hi (x : Int32) : x.toInt ≤ 2147483647 := by have := x.toInt_lt; omega
theorem z_in_full (x : Int32) : z_in z_full x := ⟨z_lo x, z_hi x⟩
def z_clip (lo hi : Int) : zR := if -2147483648 ≤ lo ∧ hi ≤ 2147483647 then (lo, hi) else z_full
theorem z_bmod {v : Int} (h1 : -2147483648 ≤ v) (h2 : v ≤ 2147483647) : v.bmod (2 ^ 32) = v := by
  apply Int.bmod_eq_of_le <;> omega
theorem z_clip_ok {lo hi v : Int} {x : Int32} (h1 : lo ≤ v) (h2 : v ≤ hi) (hx : x.toInt = v.bmod (2 ^ 32)) : z_in (z_clip lo hi) x := by
  unfold z_clip
  split
  · rename_i h
    rw [z_bmod (by omega) (by omega)] at hx
    exact ⟨by show lo ≤ _; omega, by show _ ≤ hi; omega⟩
  · exact z_in_full x
def z_add (a b : zR) : zR := z_clip (a.1 + b.1) (a.2 + b.2)
theorem z_add_ok {a b : zR} {x y : Int32} (hx : z_in a x) (hy : z_in b y) : z_in (z_add a b) (x + y) :=
  z_clip_ok (v := x.toInt + y.toInt) (by have := hx.1; have := hy.1; omega) (by have := hx.2; have := hy.2; omega) (Int32.toInt_add x y)
def z_sub (a b : zR) : zR := z_clip (a.1 - b.2) (a.2 - b.1)
theorem z_sub_ok {a b : zR} {x y : Int32} (hx : z_in a x) (hy : z_in b y) : z_in (z_sub a b) (x - y) :=
  z_clip_ok (v := x.toInt - y.toInt) (by have := hx.1; have := hy.2; omega) (by have := hx.2; have := hy.1; omega) (Int32.toInt_sub x y)
def z_neg (a : zR) : zR := z_clip (-a.2) (-a.1)
theorem z_neg_ok {a : zR} {x : Int32} (hx : z_in a x) : z_in (z_neg a) (-x) :=
  z_clip_ok (v := -x.toInt) (by have := hx.2; omega) (by have := hx.1; omega) (Int32.toInt_neg x)
def z_min (a b : Int) : Int := if a ≤ b then a else b
def z_max (a b : Int) : Int := if a ≤ b then b else a
theorem z_min_l (a b : Int) : z_min a b ≤ a := by unfold z_min; split <;> omega
theorem z_min_r (a b : Int) : z_min a b ≤ b := by unfold z_min; split <;> omega
theorem z_max_l (a b : Int) : a ≤ z_max a b := by unfold z_max; split <;> omega
theorem z_max_r (a b : Int) : b ≤ z_max a b := by unfold z_max; split <;> omega
def z_mul (a b : zR) : zR := z_clip (z_min (z_min (a.1 * b.1) (a.1 * b.2)) (z_min (a.2 * b.1) (a.2 * b.2))) (z_max (z_max (a.1 * b.1) (a.1 * b.2)) (z_max (a.2 * b.1) (a.2 * b.2)))
theorem z_mul_lin {p q x c : Int} (h1 : p ≤ x) (h2 : x ≤ q) : z_min (p * c) (q * c) ≤ x * c ∧ x * c ≤ z_max (p * c) (q * c) := by
  rcases Int.le_total 0 c with h | h
  · have := Int.mul_le_mul_of_nonneg_right h1 h
    have := Int.mul_le_mul_of_nonneg_right h2 h
    exact ⟨Int.le_trans (z_min_l _ _) (by omega), Int.le_trans (by omega) (z_max_r _ _)⟩
  · have := Int.mul_le_mul_of_nonpos_right h1 h
    have := Int.mul_le_mul_of_nonpos_right h2 h
    exact ⟨Int.le_trans (z_min_r _ _) (by omega), Int.le_trans (by omega) (z_max_l _ _)⟩
theorem z_mul_ok {a b : zR} {x y : Int32} (hx : z_in a x) (hy : z_in b y) : z_in (z_mul a b) (x * y) := by
  have e1 := z_mul_lin (c := y.toInt) hx.1 hx.2
  have e2 := z_mul_lin (c := a.1) hy.1 hy.2
  have e3 := z_mul_lin (c := a.2) hy.1 hy.2
  rw [Int.mul_comm b.1, Int.mul_comm b.2, Int.mul_comm y.toInt] at e2 e3
  have m1 := z_min_l (z_min (a.1 * b.1) (a.1 * b.2)) (z_min (a.2 * b.1) (a.2 * b.2))
  have m2 := z_min_r (z_min (a.1 * b.1) (a.1 * b.2)) (z_min (a.2 * b.1) (a.2 * b.2))
  have m3 := z_max_l (z_max (a.1 * b.1) (a.1 * b.2)) (z_max (a.2 * b.1) (a.2 * b.2))
  have m4 := z_max_r (z_max (a.1 * b.1) (a.1 * b.2)) (z_max (a.2 * b.1) (a.2 * b.2))
  refine z_clip_ok (v := x.toInt * y.toInt) ?_ ?_ (Int32.toInt_mul x y)
  · refine Int.le_trans ?_ e1.1
    unfold z_min at *
    split <;> omega
  · refine Int.le_trans e1.2 ?_
    unfold z_max at *
    split <;> omega
/-- division by a positive constant; else by what is not 0 -/
def z_div (a b : zR) : zR := if b.1 = b.2 ∧ 0 < b.1 then z_clip (a.1.tdiv b.1) (a.2.tdiv b.1) else if 0 ≤ a.1 ∧ 0 < b.1 then (0, z_max 0 a.2) else z_full
theorem z_div_ok {a b : zR} {x y : Int32} (hx : z_in a x) (hy : z_in b y) : z_in (z_div a b) (x / y) := by
  unfold z_div
  split
  · rename_i h
    have hy1 : y.toInt = b.1 := by have := hy.1; have := hy.2; omega
    refine z_clip_ok (v := x.toInt.tdiv y.toInt) ?_ ?_ (Int32.toInt_div x y)
    · rw [hy1]; exact Int.tdiv_le_tdiv h.2 hx.1
    · rw [hy1]; exact Int.tdiv_le_tdiv h.2 hx.2
  · split
    · rename_i h
      have h0 : 0 ≤ x.toInt := by have := hx.1; omega
      have h1 : 0 < y.toInt := by have := hy.1; omega
      have e : (x / y).toInt = x.toInt / y.toInt := by
        rw [Int32.toInt_div, Int.tdiv_eq_ediv_of_nonneg h0]
        have q1 : 0 ≤ x.toInt / y.toInt := Int.ediv_nonneg h0 (by omega)
        have q2 : x.toInt / y.toInt ≤ x.toInt := Int.ediv_le_self _ h0
        exact z_bmod (by omega) (by have := z_hi x; omega)
      have q1 : 0 ≤ x.toInt / y.toInt := Int.ediv_nonneg h0 (by omega)
      have q2 : x.toInt / y.toInt ≤ x.toInt := Int.ediv_le_self _ h0
      exact ⟨by show (0 : Int) ≤ _; omega, by show _ ≤ z_max 0 a.2; have := z_max_r 0 a.2; have := hx.2; omega⟩
    · exact z_in_full _
/-- the rest by what is above 0 -/
def z_rem (a b : zR) : zR := if 0 < b.1 then (if 0 ≤ a.1 then (if a.2 < b.1 then a else (0, z_min (z_max 0 a.2) (b.2 - 1))) else (-(b.2 - 1), if a.2 ≤ 0 then 0 else b.2 - 1)) else z_full
theorem z_rem_int (x y : Int32) (hy : 0 < y.toInt) : (x - x / y * y).toInt = x.toInt.tmod y.toInt := by
  have hd : (x / y).toInt = x.toInt.tdiv y.toInt := by
    rw [Int32.toInt_div]
    have h1 := Int.tdiv_le_tdiv hy (z_lo x)
    have h2 := Int.tdiv_le_tdiv hy (z_hi x)
    have k1 : (2147483647 : Int).tdiv y.toInt ≤ 2147483647 := by
      rw [Int.tdiv_eq_ediv_of_nonneg (by omega)]; exact Int.ediv_le_self _ (by omega)
    have k2 : -2147483648 ≤ (-2147483648 : Int).tdiv y.toInt := by
      have : (-2147483648 : Int).tdiv y.toInt = -((2147483648 : Int).tdiv y.toInt) := Int.neg_tdiv 2147483648 y.toInt
      rw [this, Int.tdiv_eq_ediv_of_nonneg (by omega)]
      have := Int.ediv_le_self y.toInt (a := 2147483648) (by omega)
      omega
    exact z_bmod (by omega) (by omega)
  have hm := Int.tmod_def x.toInt y.toInt
  have hb : -y.toInt < x.toInt.tmod y.toInt ∧ x.toInt.tmod y.toInt < y.toInt := tmod_bounds hy
  have hyh := z_hi y
  rw [Int32.toInt_sub, Int32.toInt_mul, hd, Int.mul_comm (x.toInt.tdiv y.toInt)]
  rw [Int.sub_bmod_bmod, ← hm]
  exact z_bmod (by omega) (by omega)
theorem z_tmod_bounds {a M : Int} (hM : 0 < M) : -M < a.tmod M ∧ a.tmod M < M := tmod_bounds hM
theorem z_rem_ok {a b : zR} {x y : Int32} (hx : z_in a x) (hy : z_in b y) : z_in (z_rem a b) (x - x / y * y) := by
  unfold z_rem
  split
  · rename_i h
    have hy0 : 0 < y.toInt := by have := hy.1; omega
    have e := z_rem_int x y hy0
    obtain ⟨t1, t2⟩ := z_tmod_bounds (a := x.toInt) hy0
    have hb2 := hy.2
    split
    · rename_i h0
      have hx0 : 0 ≤ x.toInt := by have := hx.1; omega
      have n0 : 0 ≤ x.toInt.tmod y.toInt := Int.tmod_nonneg _ hx0
      have n1 : x.toInt.tmod y.toInt ≤ x.toInt := by
        rw [Int.tmod_eq_emod_of_nonneg hx0]
        rw [Int.emod_def]
        have := Int.mul_nonneg (Int.le_of_lt hy0) (Int.ediv_nonneg hx0 (Int.le_of_lt hy0))
        omega
      split
      · rename_i h1
        have : x.toInt.tmod y.toInt = x.toInt := by
          rw [Int.tmod_eq_emod_of_nonneg hx0]
          exact Int.emod_eq_of_lt hx0 (by have := hx.2; have := hy.1; omega)
        exact ⟨by rw [e, this]; exact hx.1, by rw [e, this]; exact hx.2⟩
      · refine ⟨by rw [e]; exact n0, ?_⟩
        rw [e]
        show _ ≤ z_min _ _
        unfold z_min
        have := z_max_r 0 a.2
        have := hx.2
        split <;> omega
    · rename_i h0
      refine ⟨by rw [e]; show -(b.2 - 1) ≤ _; omega, ?_⟩
      rw [e]
      show _ ≤ (if a.2 ≤ 0 then (0 : Int) else b.2 - 1)
      split
      · rename_i h1
        have hx2 := hx.2
        have h3 : x.toInt.tmod y.toInt = -((-x.toInt).tmod y.toInt) := by rw [Int.neg_tmod]; omega
        have : 0 ≤ (-x.toInt).tmod y.toInt := Int.tmod_nonneg _ (by omega)
        omega
      · omega
  · exact z_in_full _
end
section
/-! Bits. -/
theorem z_nat {x : Int32} (h : 0 ≤ x.toInt) : x.toInt = (x.toBitVec.toNat : Int) := by
  have h1 : x.toInt = x.toBitVec.toInt := rfl
  rw [h1] at h ⊢
  rw [BitVec.toInt_eq_toNat_cond] at h ⊢
  have := x.toBitVec.isLt
  split <;> rename_i q
  · rfl
  · rw [if_neg q] at h; omega
theorem z_natlt {x : Int32} (h : 0 ≤ x.toInt) : x.toBitVec.toNat < 2147483648 := by
  have := z_nat h; have := z_hi x; omega
theorem z_ofnat {x : Int32} (h : x.toBitVec.toNat < 2147483648) : x.toInt = (x.toBitVec.toNat : Int) := by
  have h1 : x.toInt = x.toBitVec.toInt := rfl
  rw [h1, BitVec.toInt_eq_toNat_cond, if_pos (by omega)]
theorem z_negnat {x : Int32} : x.toInt < 0 ↔ 2147483648 ≤ x.toBitVec.toNat := by
  have h1 : x.toInt = x.toBitVec.toInt := rfl
  rw [h1, BitVec.toInt_eq_toNat_cond]
  have := x.toBitVec.isLt
  split <;> omega
theorem z_and_nat (x y : Int32) : (x &&& y).toBitVec.toNat = x.toBitVec.toNat &&& y.toBitVec.toNat := by
  rw [Int32.toBitVec_and, BitVec.toNat_and]
theorem z_or_nat (x y : Int32) : (x ||| y).toBitVec.toNat = x.toBitVec.toNat ||| y.toBitVec.toNat := by
  rw [Int32.toBitVec_or, BitVec.toNat_or]
theorem z_xor_nat (x y : Int32) : (x ^^^ y).toBitVec.toNat = x.toBitVec.toNat ^^^ y.toBitVec.toNat := by
  rw [Int32.toBitVec_xor, BitVec.toNat_xor]
def z_and (a b : zR) : zR := if a.1 = a.2 ∧ b.1 = b.2 ∧ 0 ≤ a.1 ∧ 0 ≤ b.1 then (((a.1.toNat &&& b.1.toNat : Nat) : Int), ((a.1.toNat &&& b.1.toNat : Nat) : Int)) else if 0 ≤ a.1 then (0, if 0 ≤ b.1 then z_min a.2 b.2 else a.2) else if 0 ≤ b.1 then (0, b.2) else if a.1 = -1 ∧ a.2 = -1 then b else if b.1 = -1 ∧ b.2 = -1 then a else z_full
theorem z_m1 {x : Int32} (h : x.toInt = -1) : x = -1 := Int32.toInt_inj.mp (by rw [h]; rfl)
theorem z_and_ok {a b : zR} {x y : Int32} (hx : z_in a x) (hy : z_in b y) : z_in (z_and a b) (x &&& y) := by
  have l1 : x.toBitVec.toNat &&& y.toBitVec.toNat ≤ x.toBitVec.toNat := Nat.and_le_left
  have l2 : x.toBitVec.toNat &&& y.toBitVec.toNat ≤ y.toBitVec.toNat := Nat.and_le_right
  have e := z_and_nat x y
  obtain ⟨x1, x2⟩ := hx
  obtain ⟨y1, y2⟩ := hy
  unfold z_and
  split
  · rename_i h
    have nx := z_nat (x := x) (by omega)
    have ny := z_nat (x := y) (by omega)
    have hx3 : a.1.toNat = x.toBitVec.toNat := by omega
    have hy3 : b.1.toNat = y.toBitVec.toNat := by omega
    have := z_natlt (x := x) (by omega)
    have q := z_ofnat (x := x &&& y) (by omega)
    rw [hx3, hy3, ← e]
    exact ⟨by rw [q]; exact Int.le_refl _, by rw [q]; exact Int.le_refl _⟩
  · split
    · have nx := z_nat (x := x) (by omega)
      have := z_natlt (x := x) (by omega)
      have q := z_ofnat (x := x &&& y) (by omega)
      refine ⟨by show (0 : Int) ≤ _; omega, ?_⟩
      show _ ≤ (if 0 ≤ b.1 then z_min a.2 b.2 else a.2)
      split
      · have ny := z_nat (x := y) (by omega)
        unfold z_min
        split <;> omega
      · omega
    · split
      · have ny := z_nat (x := y) (by omega)
        have := z_natlt (x := y) (by omega)
        have q := z_ofnat (x := x &&& y) (by omega)
        exact ⟨by show (0 : Int) ≤ _; omega, by show _ ≤ b.2; omega⟩
      · split
        · rename_i h
          have := z_m1 (x := x) (by omega)
          subst this
          have : (-1 : Int32) &&& y = y := by apply Int32.toBitVec_inj.mp; rw [Int32.toBitVec_and]; exact BitVec.allOnes_and
          rw [this]; exact ⟨y1, y2⟩
        · split
          · rename_i h
            have := z_m1 (x := y) (by omega)
            subst this
            have : x &&& (-1 : Int32) = x := by apply Int32.toBitVec_inj.mp; rw [Int32.toBitVec_and]; exact BitVec.and_allOnes
            rw [this]; exact ⟨x1, x2⟩
          · exact z_in_full _
/-- the least 2^k - 1 that is no less -/
def z_upF : Nat → Nat → Nat → Nat
  | 0, _, _ => 2147483648
  | f + 1, p, n => if n < p then p else z_upF f (p + p) n
def z_up (n : Nat) : Nat := z_upF 32 1 n
theorem z_upF_pow : ∀ f k n : Nat, k + f = 32 → ∃ j, z_upF f (2 ^ k) n = 2 ^ j ∧ (n < 2 ^ j ∨ j = 31)
  | 0, k, n, h => ⟨31, rfl, Or.inr rfl⟩
  | f + 1, k, n, h => by
    unfold z_upF
    split
    · exact ⟨k, rfl, Or.inl (by assumption)⟩
    · have := z_upF_pow f (k + 1) n (by omega)
      rwa [Nat.pow_succ, Nat.mul_two] at this
theorem z_up_pow {n : Nat} (h : n < 2147483648) : ∃ j, z_up n = 2 ^ j ∧ n < 2 ^ j := by
  obtain ⟨j, e, q⟩ := z_upF_pow 32 0 n rfl
  refine ⟨j, e, ?_⟩
  rcases q with q | q
  · exact q
  · subst q; exact h
theorem z_up_mono {n m : Nat} (h : n < 2147483648) (hm : m ≤ n) : m < z_up n := by
  obtain ⟨j, e, q⟩ := z_up_pow h
  omega
def z_or (a b : zR) : zR := if 0 ≤ a.1 ∧ 0 ≤ b.1 ∧ a.2 < 2147483648 ∧ b.2 < 2147483648 then (z_max a.1 b.1, ((z_up (z_max a.2 b.2).toNat : Nat) : Int) - 1) else if b.1 = 0 ∧ b.2 = 0 then a else if a.1 = 0 ∧ a.2 = 0 then b else z_full
theorem z_up_top (n : Nat) : z_up n ≤ 2147483648 := by
  obtain ⟨j, e, q⟩ := z_upF_pow 32 0 n rfl
  by_cases h : n < 2147483648
  · have key : ∀ f k : Nat, k + f = 32 → z_upF f (2 ^ k) n ≤ 2147483648 := by
      intro f
      induction f with
      | zero => intro k hk; exact Nat.le_refl _
      | succ f ih =>
        intro k hk
        unfold z_upF
        split
        · have : 2 ^ k ≤ 2 ^ 31 := Nat.pow_le_pow_right (by omega) (by omega)
          omega
        · have := ih (k + 1) (by omega)
          rwa [Nat.pow_succ, Nat.mul_two] at this
    exact key 32 0 rfl
  · have key : ∀ f k : Nat, k + f = 32 → z_upF f (2 ^ k) n ≤ 2147483648 := by
      intro f
      induction f with
      | zero => intro k hk; exact Nat.le_refl _
      | succ f ih =>
        intro k hk
        unfold z_upF
        split
        · have : 2 ^ k ≤ 2 ^ 31 := Nat.pow_le_pow_right (by omega) (by omega)
          omega
        · have := ih (k + 1) (by omega)
          rwa [Nat.pow_succ, Nat.mul_two] at this
    exact key 32 0 rfl
theorem z_int0 {x : Int32} (h : x.toInt = 0) : x = 0 := Int32.toInt_inj.mp (by rw [h]; rfl)
theorem z_or_ok {a b : zR} {x y : Int32} (hx : z_in a x) (hy : z_in b y) : z_in (z_or a b) (x ||| y) := by
  have e := z_or_nat x y
  obtain ⟨x1, x2⟩ := hx
  obtain ⟨y1, y2⟩ := hy
  unfold z_or
  split
  · rename_i h
    have nx := z_nat (x := x) (by omega)
    have ny := z_nat (x := y) (by omega)
    have m1 := z_max_l a.2 b.2
    have m2 := z_max_r a.2 b.2
    have hm : (z_max a.2 b.2).toNat < 2147483648 := by
      have : z_max a.2 b.2 < 2147483648 := by unfold z_max; split <;> omega
      omega
    obtain ⟨j, ej, q⟩ := z_up_pow hm
    have t := z_up_top (z_max a.2 b.2).toNat
    have hlt : x.toBitVec.toNat ||| y.toBitVec.toNat < 2 ^ j := Nat.or_lt_two_pow (by omega) (by omega)
    have k1 : x.toBitVec.toNat ≤ x.toBitVec.toNat ||| y.toBitVec.toNat := Nat.left_le_or
    have k2 : y.toBitVec.toNat ≤ x.toBitVec.toNat ||| y.toBitVec.toNat := Nat.right_le_or
    have w := z_ofnat (x := x ||| y) (by omega)
    refine ⟨?_, by show _ ≤ ((z_up (z_max a.2 b.2).toNat : Nat) : Int) - 1; omega⟩
    show z_max a.1 b.1 ≤ _
    unfold z_max
    split <;> omega
  · split
    · have := z_int0 (x := y) (by omega)
      subst this
      have : x ||| (0 : Int32) = x := by apply Int32.toBitVec_inj.mp; rw [Int32.toBitVec_or]; exact BitVec.or_zero
      rw [this]; exact ⟨x1, x2⟩
    · split
      · have := z_int0 (x := x) (by omega)
        subst this
        have : (0 : Int32) ||| y = y := by apply Int32.toBitVec_inj.mp; rw [Int32.toBitVec_or]; exact BitVec.zero_or
        rw [this]; exact ⟨y1, y2⟩
      · exact z_in_full _
def z_xor (a b : zR) : zR := if 0 ≤ a.1 ∧ 0 ≤ b.1 ∧ a.2 < 2147483648 ∧ b.2 < 2147483648 then (0, ((z_up (z_max a.2 b.2).toNat : Nat) : Int) - 1) else if b.1 = -1 ∧ b.2 = -1 then (-1 - a.2, -1 - a.1) else if 0 ≤ a.1 ∧ b.2 < 0 then (-2147483648, -1) else if a.2 < 0 ∧ 0 ≤ b.1 then (-2147483648, -1) else if a.2 < 0 ∧ b.2 < 0 then (0, 2147483647) else z_full
theorem z_msb (x : Int32) : x.toInt < 0 ↔ x.toBitVec.msb = true := by
  have h1 : x.toInt = x.toBitVec.toInt := rfl
  rw [h1, BitVec.msb_eq_toInt]; simp
theorem z_xor_ok {a b : zR} {x y : Int32} (hx : z_in a x) (hy : z_in b y) : z_in (z_xor a b) (x ^^^ y) := by
  have e := z_xor_nat x y
  obtain ⟨x1, x2⟩ := hx
  obtain ⟨y1, y2⟩ := hy
  have hz1 := z_lo (x ^^^ y)
  have hz2 := z_hi (x ^^^ y)
  have ms : (x ^^^ y).toInt < 0 ↔ (x.toInt < 0 ∧ ¬ y.toInt < 0) ∨ (¬ x.toInt < 0 ∧ y.toInt < 0) := by
    rw [z_msb, z_msb x, z_msb y, Int32.toBitVec_xor, BitVec.msb_xor]
    cases x.toBitVec.msb <;> cases y.toBitVec.msb <;> simp
  unfold z_xor
  split
  · rename_i h
    have nx := z_nat (x := x) (by omega)
    have ny := z_nat (x := y) (by omega)
    have m1 := z_max_l a.2 b.2
    have m2 := z_max_r a.2 b.2
    have hm : (z_max a.2 b.2).toNat < 2147483648 := by
      have : z_max a.2 b.2 < 2147483648 := by unfold z_max; split <;> omega
      omega
    obtain ⟨j, ej, q⟩ := z_up_pow hm
    have t := z_up_top (z_max a.2 b.2).toNat
    have hlt : x.toBitVec.toNat ^^^ y.toBitVec.toNat < 2 ^ j := Nat.xor_lt_two_pow (by omega) (by omega)
    have w := z_ofnat (x := x ^^^ y) (by omega)
    exact ⟨by show (0 : Int) ≤ _; omega, by show _ ≤ ((z_up (z_max a.2 b.2).toNat : Nat) : Int) - 1; omega⟩
  · split
    · have := z_m1 (x := y) (by omega)
      subst this
      have k : (x ^^^ (-1 : Int32)).toInt = -1 - x.toInt := by
        have h2 : (x ^^^ (-1 : Int32)) = ~~~x := by apply Int32.toBitVec_inj.mp; rw [Int32.toBitVec_xor, Int32.toBitVec_not]; exact BitVec.xor_allOnes
        rw [h2]
        have := Int32.toInt_not x
        have hb := z_bmod (v := -x.toInt - 1) (by have := z_hi x; omega) (by have := z_lo x; omega)
        omega
      exact ⟨by rw [k]; show -1 - a.2 ≤ _; omega, by rw [k]; show _ ≤ -1 - a.1; omega⟩
    · split
      · exact ⟨hz1, by show _ ≤ (-1 : Int); have := ms.mpr (Or.inr ⟨by omega, by omega⟩); omega⟩
      · split
        · exact ⟨hz1, by show _ ≤ (-1 : Int); have := ms.mpr (Or.inl ⟨by omega, by omega⟩); omega⟩
        · split
          · refine ⟨?_, hz2⟩
            show (0 : Int) ≤ _
            rcases Int.lt_or_le (x ^^^ y).toInt 0 with q | q
            · rcases ms.mp q with ⟨_, w⟩ | ⟨w, _⟩ <;> omega
            · exact q
          · exact z_in_full _
end
section
/-! Shifts. -/
theorem z_sm : ∀ k, k < 32 → ((nI k).toBitVec.smod 32).toNat = k := by decide +kernel
theorem z_sm31 : ∀ k, k < 32 → ((nI k &&& 31).toBitVec.smod 32).toNat = k := by decide +kernel
theorem z_um31 : ∀ k, k < 32 → (((nI k).toUInt32 &&& Int32.toUInt32 31).toBitVec % 32).toNat = k := by decide +kernel
theorem z_isI {x : Int32} (h : 0 ≤ x.toInt) : x = nI x.toInt.toNat := by
  apply Int32.toInt_inj.mp
  have := z_hi x
  rw [nI_toInt (by omega)]
  omega
/-- how far it is shifted -/
theorem z_amt (y : Int32) : ∃ k, k < 32 ∧ ((y &&& 31).toBitVec.smod 32).toNat = k ∧ (0 ≤ y.toInt → y.toInt < 32 → y.toInt = k) := by
  by_cases h : 0 ≤ y.toInt ∧ y.toInt < 32
  · have e := z_isI h.1
    refine ⟨y.toInt.toNat, by omega, ?_, fun _ _ => by omega⟩
    conv => lhs; rw [e]
    exact z_sm31 _ (by omega)
  · obtain ⟨j, hj, e⟩ := pk_andE y (m := 31) 5 rfl
    exact ⟨j, hj, by rw [e]; exact z_sm j hj, fun h1 h2 => absurd ⟨h1, h2⟩ h⟩
def z_shl (a b : zR) : zR := if 0 ≤ a.1 ∧ 0 ≤ b.1 ∧ b.2 < 31 ∧ a.2 * ((2 ^ b.2.toNat : Nat) : Int) ≤ 2147483647 then (a.1 * ((2 ^ b.1.toNat : Nat) : Int), a.2 * ((2 ^ b.2.toNat : Nat) : Int)) else if a.1 = 0 ∧ a.2 = 0 then (0, 0) else z_full
theorem z_shl_ok {a b : zR} {x y : Int32} (hx : z_in a x) (hy : z_in b y) : z_in (z_shl a b) (x <<< (y &&& 31)) := by
  obtain ⟨k, hk, ek, hk2⟩ := z_amt y
  have e := pk_shl x (y &&& 31) k ek
  obtain ⟨x1, x2⟩ := hx
  obtain ⟨y1, y2⟩ := hy
  unfold z_shl
  split
  · rename_i h
    obtain ⟨h1, h2, h3, h4⟩ := h
    have hyk := hk2 (by omega) (by omega)
    have nx := z_nat (x := x) (by omega)
    have p1 : 2 ^ k ≤ 2 ^ b.2.toNat := Nat.pow_le_pow_right (by omega) (by omega)
    have p2 : 2 ^ b.1.toNat ≤ 2 ^ k := Nat.pow_le_pow_right (by omega) (by omega)
    have m1 : (x.toBitVec.toNat : Int) * ((2 ^ k : Nat) : Int) ≤ a.2 * ((2 ^ b.2.toNat : Nat) : Int) :=
      Int.mul_le_mul (by omega) (by exact_mod_cast p1) (Int.natCast_nonneg _) (by omega)
    have m2 : a.1 * ((2 ^ b.1.toNat : Nat) : Int) ≤ (x.toBitVec.toNat : Int) * ((2 ^ k : Nat) : Int) :=
      Int.mul_le_mul (by omega) (by exact_mod_cast p2) (Int.natCast_nonneg _) (by omega)
    have m3 : ((x.toBitVec.toNat * 2 ^ k : Nat) : Int) = (x.toBitVec.toNat : Int) * ((2 ^ k : Nat) : Int) := Int.natCast_mul _ _
    have m4 : x.toBitVec.toNat * 2 ^ k < 2147483648 := by omega
    rw [Nat.mod_eq_of_lt (by omega)] at e
    have w := z_ofnat (x := x <<< (y &&& 31)) (by omega)
    exact ⟨by rw [w, e, m3]; exact m2, by rw [w, e, m3]; exact m1⟩
  · split
    · have := z_int0 (x := x) (by omega)
      subst this
      have z0 : (0 : Int32).toBitVec.toNat = 0 := rfl
      rw [z0, Nat.zero_mul, Nat.zero_mod] at e
      have w := z_ofnat (x := (0 : Int32) <<< (y &&& 31)) (by omega)
      exact ⟨by rw [w, e]; exact Int.le_refl _, by rw [w, e]; exact Int.le_refl _⟩
    · exact z_in_full _
def z_shr (a b : zR) : zR := if 0 ≤ b.1 ∧ b.2 < 32 then (if 0 ≤ a.1 then a.1 / ((2 ^ b.2.toNat : Nat) : Int) else a.1 / ((2 ^ b.1.toNat : Nat) : Int), if 0 ≤ a.2 then a.2 / ((2 ^ b.1.toNat : Nat) : Int) else a.2 / ((2 ^ b.2.toNat : Nat) : Int)) else (if 0 ≤ a.1 then 0 else a.1, if 0 ≤ a.2 then a.2 else -1)
theorem z_ediv_anti {v p q : Int} (hv : 0 ≤ v) (hp : 0 < p) (h : p ≤ q) : v / q ≤ v / p := by
  rw [Int.le_ediv_iff_mul_le hp]
  have h1 : v / q * p ≤ v / q * q := Int.mul_le_mul_of_nonneg_left h (Int.ediv_nonneg hv (by omega))
  have h2 : v / q * q ≤ v := Int.ediv_mul_le _ (by omega)
  omega
theorem z_ediv_mono {v p q : Int} (hv : v < 0) (hp : 0 < p) (h : p ≤ q) : v / p ≤ v / q := by
  rw [Int.le_ediv_iff_mul_le (by omega)]
  have h0 : v / p < 0 := Int.ediv_neg_of_neg_of_pos hv hp
  have h1 : v / p * q ≤ v / p * p := Int.mul_le_mul_of_nonpos_left (by omega) h
  have h2 : v / p * p ≤ v := Int.ediv_mul_le _ (by omega)
  omega
theorem z_shr_val {x y : Int32} {k : Nat} (ek : ((y &&& 31).toBitVec.smod 32).toNat = k) : (x >>> (y &&& 31)).toInt = x.toInt / ((2 ^ k : Nat) : Int) := by
  rw [pk_shr x (y &&& 31) k ek, Int.shiftRight_eq_div_pow]
theorem z_shr_ok {a b : zR} {x y : Int32} (hx : z_in a x) (hy : z_in b y) : z_in (z_shr a b) (x >>> (y &&& 31)) := by
  obtain ⟨k, hk, ek, hk2⟩ := z_amt y
  have e := z_shr_val (x := x) ek
  obtain ⟨x1, x2⟩ := hx
  obtain ⟨y1, y2⟩ := hy
  have pk : (0 : Int) < ((2 ^ k : Nat) : Int) := by exact_mod_cast Nat.two_pow_pos k
  unfold z_shr
  split
  · rename_i h
    have hyk := hk2 (by omega) (by omega)
    have p1 : ((2 ^ k : Nat) : Int) ≤ ((2 ^ b.2.toNat : Nat) : Int) := by exact_mod_cast (Nat.pow_le_pow_right (by omega) (by omega) : 2 ^ k ≤ 2 ^ b.2.toNat)
    have p2 : ((2 ^ b.1.toNat : Nat) : Int) ≤ ((2 ^ k : Nat) : Int) := by exact_mod_cast (Nat.pow_le_pow_right (by omega) (by omega) : 2 ^ b.1.toNat ≤ 2 ^ k)
    have q0 : (0 : Int) < ((2 ^ b.1.toNat : Nat) : Int) := by exact_mod_cast Nat.two_pow_pos _
    refine ⟨?_, ?_⟩
    · rw [e]
      show (if 0 ≤ a.1 then _ else _) ≤ _
      split
      · exact Int.le_trans (z_ediv_anti (by omega) pk p1) (Int.ediv_le_ediv pk x1)
      · exact Int.le_trans (z_ediv_mono (by omega) q0 p2) (Int.ediv_le_ediv pk x1)
    · rw [e]
      show _ ≤ (if 0 ≤ a.2 then _ else _)
      split
      · exact Int.le_trans (Int.ediv_le_ediv pk x2) (z_ediv_anti (by omega) q0 p2)
      · exact Int.le_trans (Int.ediv_le_ediv pk x2) (z_ediv_mono (by omega) pk p1)
  · refine ⟨?_, ?_⟩
    · rw [e]
      show (if 0 ≤ a.1 then (0 : Int) else a.1) ≤ _
      split
      · exact Int.ediv_nonneg (by omega) (by omega)
      · rcases Int.lt_or_le x.toInt 0 with q | q
        · have := z_ediv_mono (v := x.toInt) (p := 1) (q := ((2 ^ k : Nat) : Int)) q (by omega) (by omega)
          rw [Int.ediv_one] at this; omega
        · have := Int.ediv_nonneg q (Int.le_of_lt pk); omega
    · rw [e]
      show _ ≤ (if 0 ≤ a.2 then a.2 else (-1 : Int))
      split
      · rcases Int.lt_or_le x.toInt 0 with q | q
        · have := Int.ediv_neg_of_neg_of_pos q pk; omega
        · have := Int.ediv_le_self ((2 ^ k : Nat) : Int) q; omega
      · have := Int.ediv_neg_of_neg_of_pos (show x.toInt < 0 by omega) pk; omega
def z_ushr (a b : zR) : zR := if 0 ≤ a.1 then z_shr a b else if b.1 = b.2 ∧ 0 < b.1 ∧ b.1 < 32 then (0, ((4294967295 / 2 ^ b.1.toNat : Nat) : Int)) else z_full
theorem z_ushr_ok {a b : zR} {x y : Int32} (hx : z_in a x) (hy : z_in b y) : z_in (z_ushr a b) ((x.toUInt32 >>> (y.toUInt32 &&& Int32.toUInt32 31)).toInt32) := by
  have amt : ∀ k : Nat, k < 32 → ((y &&& 31).toBitVec.smod 32).toNat = k → ((y.toUInt32 &&& Int32.toUInt32 31).toBitVec % 32).toNat = k := by
    intro k hk h
    have h1 : (y.toUInt32 &&& Int32.toUInt32 31).toBitVec = (y &&& 31).toBitVec := rfl
    rw [h1]
    obtain ⟨j, hj, e⟩ := pk_andE y (m := 31) 5 rfl
    rw [e] at h ⊢
    rw [z_sm j hj] at h
    subst h
    have : ∀ k, k < 32 → ((nI k).toBitVec % 32).toNat = k := by decide +kernel
    exact this j hj
  obtain ⟨k, hk, ek, hk2⟩ := z_amt y
  have e := pk_ushr x y k (amt k hk ek)
  unfold z_ushr
  split
  · rename_i h
    have h0 : 0 ≤ x.toInt := by have := hx.1; omega
    have w := z_shr_ok hx hy
    have nx := z_nat h0
    have lx := z_natlt h0
    have dl : x.toBitVec.toNat / 2 ^ k ≤ x.toBitVec.toNat := Nat.div_le_self _ _
    have q := z_ofnat (x := (x.toUInt32 >>> (y.toUInt32 &&& Int32.toUInt32 31)).toInt32) (by rw [e]; omega)
    have same : (x >>> (y &&& 31)) = (x.toUInt32 >>> (y.toUInt32 &&& Int32.toUInt32 31)).toInt32 := by
      apply Int32.toInt_inj.mp
      rw [z_shr_val ek, q, e, nx]
      exact (Int.natCast_ediv _ _).symm
    rw [← same]; exact w
  · split
    · rename_i h
      obtain ⟨h1, h2, h3⟩ := h
      obtain ⟨y1, y2⟩ := hy
      have hyk := hk2 (by omega) (by omega)
      have kk : b.1.toNat = k := by omega
      have xl := x.toBitVec.isLt
      have p : x.toBitVec.toNat / 2 ^ k ≤ 4294967295 / 2 ^ k := Nat.div_le_div_right (by omega)
      have p2 : 4294967295 / 2 ^ k ≤ 4294967295 / 2 ^ 1 := Nat.div_le_div_left (Nat.pow_le_pow_right (by omega) (by omega)) (by omega)
      have q := z_ofnat (x := (x.toUInt32 >>> (y.toUInt32 &&& Int32.toUInt32 31)).toInt32) (by rw [e]; omega)
      rw [kk]
      exact ⟨by rw [q]; exact Int.natCast_nonneg _, by rw [q, e]; exact Int.ofNat_le.mpr p⟩
    · exact z_in_full _
def z_i2b (a : zR) : zR := if -128 ≤ a.1 ∧ a.2 < 128 then a else (-128, 127)
theorem z_i2b_ok {a : zR} {x : Int32} (hx : z_in a x) : z_in (z_i2b a) (x.toInt8.toInt32) := by
  have e : (x.toInt8.toInt32).toInt = x.toInt.bmod (2 ^ 8) := by rw [Int8.toInt_toInt32, Int32.toInt_toInt8]
  unfold z_i2b
  split
  · rename_i h
    have : x.toInt.bmod (2 ^ 8) = x.toInt := by
      have := hx.1; have := hx.2
      apply Int.bmod_eq_of_le <;> omega
    exact ⟨by rw [e, this]; exact hx.1, by rw [e, this]; exact hx.2⟩
  · have h1 := Int.le_bmod (x := x.toInt) (m := 2 ^ 8) (by decide)
    have h2 := Int.bmod_lt (x := x.toInt) (m := 2 ^ 8) (by decide)
    exact ⟨by rw [e]; show (-128 : Int) ≤ _; omega, by rw [e]; show _ ≤ (127 : Int); omega⟩
def z_i2c (a : zR) : zR := if 0 ≤ a.1 ∧ a.2 ≤ 65535 then a else (0, 65535)
theorem z_i2c_ok {a : zR} {x : Int32} (hx : z_in a x) : z_in (z_i2c a) ((x.toUInt32 % 65536).toInt32) := by
  have e : ((x.toUInt32 % 65536).toInt32).toBitVec.toNat = x.toBitVec.toNat % 65536 := by
    show (x.toUInt32 % 65536).toNat = _
    rw [UInt32.toNat_mod]
    rfl
  have hl := Nat.mod_lt x.toBitVec.toNat (show 0 < 65536 by decide)
  have q := z_ofnat (x := (x.toUInt32 % 65536).toInt32) (by rw [e]; omega)
  rw [e] at q
  unfold z_i2c
  split
  · rename_i h
    have h0 : 0 ≤ x.toInt := by have := hx.1; omega
    have nx := z_nat h0
    have h1 := hx.1
    have h2 := hx.2
    have : x.toBitVec.toNat % 65536 = x.toBitVec.toNat := Nat.mod_eq_of_lt (by omega)
    rw [this] at q
    exact ⟨by rw [q]; omega, by rw [q]; omega⟩
  · exact ⟨by rw [q]; show (0 : Int) ≤ _; omega, by rw [q]; show _ ≤ (65535 : Int); omega⟩
end
section
/-! Abstract values, types of cells, abstract states, and what they say of the machine. -/
abbrev zV : Type := zR ⊕ (Nat ⊕ Nat)
abbrev zTp : Type := Nat → Option Nat
/-- an int in a range; a reference to a cell of a type; a known address (0: any long) -/
def z_v (OB : Nat → Nat) (T : zTp) (c : zV) (v : Value) : Prop := match c with
  | .inl r => ∃ x : Int32, v = .int x ∧ z_in r x
  | .inr (.inl t) => ∃ a : Nat, v = .ref a ∧ T a = some t
  | .inr (.inr 0) => ∃ x : Int64, v = .long x
  | .inr (.inr (k + 1)) => v = .ref (OB k)
def z_ile (a b : Int) : Bool := decide (a ≤ b)
theorem z_ile_ok {a b : Int} (h : z_ile a b = true) : a ≤ b := of_decide_eq_true h
theorem z_beq {a b : Nat} (h : Nat.beq a b = true) : a = b := Nat.eq_of_beq_eq_true h
def z_le (c d : zV) : Bool := match c, d with
  | .inl r, .inl q => z_ile q.1 r.1 && z_ile r.2 q.2
  | .inr (.inl t), .inr (.inl u) => Nat.beq t u
  | .inr (.inr k), .inr (.inr j) => Nat.beq k j
  | _, _ => false
theorem z_in_le {r q : zR} {x : Int32} (h1 : q.1 ≤ r.1) (h2 : r.2 ≤ q.2) (h : z_in r x) : z_in q x := ⟨Int.le_trans h1 h.1, Int.le_trans h.2 h2⟩
theorem z_le_ok {OB : Nat → Nat} {T : zTp} {c d : zV} {v : Value} (h : z_le c d = true) (hv : z_v OB T c v) : z_v OB T d v := by
  rcases c with r | t | k <;> rcases d with q | u | j <;> simp only [z_le, Bool.and_eq_true, Bool.false_eq_true] at h
  · obtain ⟨x, e, hx⟩ := hv
    exact ⟨x, e, z_in_le (z_ile_ok h.1) (z_ile_ok h.2) hx⟩
  · rw [← z_beq h]; exact hv
  · rw [← z_beq h]; exact hv
/-- an object: the place of its class, its fields; an array: the kind of its entries, its least and its greatest length, what stands in which places -/
abbrev zTy : Type := (Nat × List zV) ⊕ (Nat × (Nat × Nat) × List ((Nat × Nat) × zV))
def z_cell (OB : Nat → Nat) (D : va_G) (DA : Nat → ClassId) (cl : List vw_C) (T : zTp) (H : Heap) (a : Nat) (ty : zTy) : Prop := match ty with
  | .inl o => ∃ r, cl[o.1]? = some r ∧ o.2.length = r.2.2 ∧ ∃ V : Nat → Value, t_OB a (D.1 o.1) r.2.2 (D.2 o.1) H V ∧ ∀ k c, o.2[k]? = some c → z_v OB T c (V k)
  | .inr q => ∃ (n : Nat) (f : Nat → Value), H[a]? = some (arrV (DA q.1) n f) ∧ q.2.1.1 ≤ n ∧ n ≤ q.2.1.2 ∧ n < 2147483648 ∧ ∀ g ∈ q.2.2, ∀ j, j < n → g.1.1 ≤ j → j ≤ g.1.2 → z_v OB T g.2 (f j)
/-- a slot of a cell -/
def z_sl (H : Heap) (a k : Nat) (w : Value) : Prop := ∃ cell : Cell, H[a]? = some cell ∧ cell.vm = .none ∧ cell.slots[k]? = some w
abbrev zS : Type := List (Nat × Nat) × List Nat × Nat × List (Nat × zV) × List (Nat × Nat × Nat × Nat) × List (Nat × Nat × Nat) × List (Nat × Nat × Int) × List (Nat × Nat) × (Nat × Nat) × Nat
abbrev z_L (st : zS) := st.1
abbrev z_S (st : zS) := st.2.1
abbrev z_n (st : zS) := st.2.2.1
abbrev z_V (st : zS) := st.2.2.2.1
abbrev z_F (st : zS) := st.2.2.2.2.1
abbrev z_E (st : zS) := st.2.2.2.2.2.1
abbrev z_R (st : zS) := st.2.2.2.2.2.2.1
abbrev z_X (st : zS) := st.2.2.2.2.2.2.2.1
abbrev z_C (st : zS) := st.2.2.2.2.2.2.2.2.1
abbrev z_ph (st : zS) := st.2.2.2.2.2.2.2.2.2
def z_ls (nL : Nat) (ls : Array Slot) (env : List Value) (L : List (Nat × Nat)) : Prop := ∃ lv, lv_has ls nL lv ∧ (∀ q ∈ lv, q.2.category = 1) ∧ ∀ q ∈ L, ∃ v, env[q.2]? = some v ∧ (q.1, v) ∈ lv
def z_stk (env : List Value) : List Nat → List Value → Prop
  | [], k => k = []
  | i :: S, k => ∃ v k', k = v :: k' ∧ env[i]? = some v ∧ z_stk env S k'
def z_fv (OB : Nat → Nat) (T : zTp) (env : List Value) (V : List (Nat × zV)) : Prop := ∀ q ∈ V, ∃ v, env[q.1]? = some v ∧ z_v OB T q.2 v
def z_ff (D : va_G) (cl : List vw_C) (H : Heap) (env : List Value) (F : List (Nat × Nat × Nat × Nat)) : Prop := ∀ q ∈ F, ∃ a w r, env[q.1]? = some (.ref a) ∧ env[q.2.2.2]? = some w ∧ cl[q.2.1]? = some r ∧ q.2.2.1 < r.2.2 ∧ z_sl H a (D.2 q.2.1 q.2.2.1) w
def z_fe (H : Heap) (env : List Value) (E : List (Nat × Nat × Nat)) : Prop := ∀ q ∈ E, ∃ a x w, env[q.1]? = some (.ref a) ∧ env[q.2.1]? = some (.int x) ∧ 0 ≤ x.toInt ∧ env[q.2.2]? = some w ∧ z_sl H a x.toInt.toNat w
def z_fr (env : List Value) (R : List (Nat × Nat × Int)) : Prop := ∀ q ∈ R, ∃ x y, env[q.1]? = some (.int y) ∧ env[q.2.1]? = some (.int x) ∧ x.toInt + q.2.2 ≤ y.toInt
def z_fx (D : va_G) (cl : List vw_C) (T : zTp) (sz : Nat) (n0 : Nat) (raw : Option Nat) (H : Heap) (env : List Value) : List (Nat × Nat) → Prop
  | [] => True
  | q :: X => (∃ a, env[q.1]? = some (.ref a) ∧ T a = none ∧ (sz ≤ a ∧ (n0 ≤ a ∨ raw = some a)) ∧ (∃ r V, cl[q.2]? = some r ∧ t_OB a (D.1 q.2) r.2.2 (D.2 q.2) H V) ∧ ∀ p ∈ X, env[p.1]? ≠ some (.ref a)) ∧ z_fx D cl T sz n0 raw H env X
theorem z_app {env w : List Value} {i : Nat} {v : Value} (h : env[i]? = some v) : (env ++ w)[i]? = some v := by
  rw [List.getElem?_append_left (List.getElem?_eq_some_iff.mp h).1]; exact h
theorem z_ls_app {nL : Nat} {ls : Array Slot} {env w : List Value} {L : List (Nat × Nat)} (h : z_ls nL ls env L) : z_ls nL ls (env ++ w) L := by
  obtain ⟨lv, h1, h2, h3⟩ := h
  exact ⟨lv, h1, h2, fun q hq => by obtain ⟨v, e, m⟩ := h3 q hq; exact ⟨v, z_app e, m⟩⟩
theorem z_stk_app {env w : List Value} : ∀ {S : List Nat} {k : List Value}, z_stk env S k → z_stk (env ++ w) S k
  | [], _, h => h
  | _ :: _, _, ⟨v, k', e, h1, h2⟩ => ⟨v, k', e, z_app h1, z_stk_app h2⟩
theorem z_fv_app {OB : Nat → Nat} {T : zTp} {env w : List Value} {V : List (Nat × zV)} (h : z_fv OB T env V) : z_fv OB T (env ++ w) V := fun q hq => by
  obtain ⟨v, e, m⟩ := h q hq; exact ⟨v, z_app e, m⟩
theorem z_ff_app {D : va_G} {cl : List vw_C} {H : Heap} {env w : List Value} {F : List (Nat × Nat × Nat × Nat)} (h : z_ff D cl H env F) : z_ff D cl H (env ++ w) F := fun q hq => by
  obtain ⟨a, v, r, e1, e2, e3⟩ := h q hq; exact ⟨a, v, r, z_app e1, z_app e2, e3⟩
theorem z_fe_app {H : Heap} {env w : List Value} {E : List (Nat × Nat × Nat)} (h : z_fe H env E) : z_fe H (env ++ w) E := fun q hq => by
  obtain ⟨a, x, v, e1, e2, e3, e4, e5⟩ := h q hq; exact ⟨a, x, v, z_app e1, z_app e2, e3, z_app e4, e5⟩
theorem z_fr_app {env w : List Value} {R : List (Nat × Nat × Int)} (h : z_fr env R) : z_fr (env ++ w) R := fun q hq => by
  obtain ⟨x, y, e1, e2, e3⟩ := h q hq; exact ⟨x, y, z_app e1, z_app e2, e3⟩
theorem z_fx_in {D : va_G} {cl : List vw_C} {T : zTp} {sz n0 : Nat} {raw : Option Nat} {H : Heap} {env : List Value} : ∀ {X : List (Nat × Nat)}, z_fx D cl T sz n0 raw H env X → ∀ p ∈ X, ∃ a, env[p.1]? = some (.ref a) ∧ T a = none ∧ (sz ≤ a ∧ (n0 ≤ a ∨ raw = some a)) ∧ ∃ r V, cl[p.2]? = some r ∧ t_OB a (D.1 p.2) r.2.2 (D.2 p.2) H V
  | [], _, p, hp => absurd hp List.not_mem_nil
  | _ :: _, ⟨⟨a, h1, h2, h3, h4, _⟩, hr⟩, p, hp => by
    rcases List.mem_cons.mp hp with rfl | hp
    · exact ⟨a, h1, h2, h3, h4⟩
    · exact z_fx_in hr p hp
theorem z_fx_app {D : va_G} {cl : List vw_C} {T : zTp} {sz n0 : Nat} {raw : Option Nat} {H : Heap} {env w : List Value} : ∀ {X : List (Nat × Nat)}, z_fx D cl T sz n0 raw H env X → z_fx D cl T sz n0 raw H (env ++ w) X
  | [], h => h
  | _ :: _, ⟨⟨a, h1, h2, h3, h4, h5⟩, hr⟩ => by
    refine ⟨⟨a, z_app h1, h2, h3, h4, fun p hp => ?_⟩, z_fx_app hr⟩
    obtain ⟨b, hb, _⟩ := z_fx_in hr p hp
    rw [z_app hb, ← hb]
    exact h5 p hp
/-- the newest entry -/
def z_get : List (Nat × zV) → Nat → Option zV
  | [], _ => none
  | q :: V, i => cond (Nat.beq q.1 i) (some q.2) (z_get V i)
theorem z_get_mem : ∀ {V : List (Nat × zV)} {i : Nat} {c : zV}, z_get V i = some c → (i, c) ∈ V
  | [], _, _, h => by simp [z_get] at h
  | q :: V, i, c, h => by
    unfold z_get at h
    cases hb : Nat.beq q.1 i with
    | true =>
      rw [hb] at h
      cases h
      rw [← z_beq hb]
      exact List.mem_cons_self
    | false =>
      rw [hb] at h
      exact List.mem_cons_of_mem _ (z_get_mem h)
theorem z_get_ok {OB : Nat → Nat} {T : zTp} {env : List Value} {V : List (Nat × zV)} {i : Nat} {c : zV} (h : z_fv OB T env V) (e : z_get V i = some c) : ∃ v, env[i]? = some v ∧ z_v OB T c v := h _ (z_get_mem e)
def z_loc : List (Nat × Nat) → Nat → Option Nat
  | [], _ => none
  | q :: L, i => cond (Nat.beq q.1 i) (some q.2) (z_loc L i)
theorem z_loc_mem : ∀ {L : List (Nat × Nat)} {i d : Nat}, z_loc L i = some d → (i, d) ∈ L
  | [], _, _, h => by simp [z_loc] at h
  | q :: L, i, d, h => by
    unfold z_loc at h
    cases hb : Nat.beq q.1 i with
    | true =>
      rw [hb] at h
      cases h
      rw [← z_beq hb]
      exact List.mem_cons_self
    | false =>
      rw [hb] at h
      exact List.mem_cons_of_mem _ (z_loc_mem h)
/-- a lower bound of the difference y - x, by so many steps -/
def z_lbs (R0 : List (Nat × Nat × Int)) : Nat → Nat → Nat → Option Int
  | 0, y, x => cond (Nat.beq y x) (some 0) none
  | f + 1, y, x => cond (Nat.beq y x) (some 0) (R0.findSome? (fun q => cond (Nat.beq q.1 y) ((z_lbs R0 f q.2.1 x).map (fun c => c + q.2.2)) none))
theorem z_lbs_ok {env : List Value} {R : List (Nat × Nat × Int)} (h : z_fr env R) : ∀ {f y x : Nat} {c : Int} {vy : Int32}, z_lbs R f y x = some c → env[y]? = some (.int vy) → ∃ vx : Int32, env[x]? = some (.int vx) ∧ vx.toInt + c ≤ vy.toInt := by
  intro f
  induction f with
  | zero =>
    intro y x c vy e hy
    unfold z_lbs at e
    cases hb : Nat.beq y x with
    | true => rw [hb] at e; cases e; rw [← z_beq hb]; exact ⟨vy, hy, by omega⟩
    | false => rw [hb] at e; cases e
  | succ f ih =>
    intro y x c vy e hy
    unfold z_lbs at e
    cases hb : Nat.beq y x with
    | true => rw [hb] at e; cases e; rw [← z_beq hb]; exact ⟨vy, hy, by omega⟩
    | false =>
      rw [hb] at e
      obtain ⟨q, hq, hq2⟩ := List.exists_of_findSome?_eq_some e
      cases hb2 : Nat.beq q.1 y with
      | false => rw [hb2] at hq2; cases hq2
      | true =>
        rw [hb2] at hq2
        obtain ⟨xx, yy, e1, e2, e3⟩ := h q hq
        rw [z_beq hb2, hy] at e1
        cases e1
        cases hr : z_lbs R f q.2.1 x with
        | none => rw [hr] at hq2; cases hq2
        | some c2 =>
          rw [hr] at hq2
          have hc : c = c2 + q.2.2 := (Option.some.inj hq2).symm
          obtain ⟨vx, h1, h2⟩ := ih hr e2
          exact ⟨vx, h1, by omega⟩
end
section
/-! What is kept of laws in every typed heap. -/
def z_T1 (T : zTp) (a t : Nat) : zTp := fun q => if q = a then some t else T q
theorem z_T1_at {T : zTp} {a tau : Nat} : z_T1 T a tau a = some tau := by unfold z_T1; rw [if_pos rfl]
theorem z_T1_ne {T : zTp} {a tau b : Nat} (h : b ≠ a) : z_T1 T a tau b = T b := by unfold z_T1; rw [if_neg h]
def zp_q (D said w : Int → Int) (cm wt k : Int) : Prop :=
  0 ≤ said k ∧ 0 ≤ D k ∧
  ((said k / 1048576 = 0 ∧ D (k + 1) ≤ D k + 1) ∨ (said k / 1048576 = 1 ∧ said k % 1048576 ≤ 12 ∧ D (k + 1) ≤ D k + 1) ∨ (2 ≤ said k / 1048576 ∧ said k / 1048576 ≤ 9 ∧ 2 ≤ D k ∧ D (k + 1) ≤ D k - 1) ∨ (said k / 1048576 = 10 ∧ 1 ≤ D k ∧ D (k + 1) ≤ D k) ∨
    ((said k / 1048576 = 11 ∨ said k / 1048576 = 12) ∧ 1 ≤ D k ∧ D (k + 1) ≤ D k - 1 ∧ ((k < said k % 1048576 ∧ said k % 1048576 ≤ cm ∧ D (said k % 1048576) ≤ D k) ∨ ∃ j, 0 ≤ j ∧ j < wt ∧ (w j / 1048576 = 11 ∨ w j / 1048576 = 12) ∧ w j % 1048576 = k)))
/-- the clauses that are read -/
def zp_cl (D sf sh st : Int → Int) (cm sm : Int) : Prop := ∀ q, 0 ≤ q → q < sm → 0 ≤ sf q ∧ sf q ≤ sh q ∧ sh q ≤ st q ∧ st q ≤ cm ∧ D (sf q) = 0 ∧ D (sh q) = 0
/-- a law as it is kept: where codes are and how deep the stack is ahead of each -/
def zp_J (codes : Int → Int) (cs : Int) (cf ch ct : Int → Int) : Prop :=
  ∃ (D : Int → Int) (cm : Int), 0 ≤ cm ∧ cm ≤ 200 ∧ (∀ k, 0 ≤ k → k < cm → zp_q D codes (fun _ => 0) cm 0 k) ∧ 0 ≤ cs ∧ cs ≤ 14 ∧ zp_cl D cf ch ct cm cs
/-- steps as they are kept: a letter's value is a letter -/
def zr_J (kinds vals : Int → Int) : Prop := ∀ k, 0 ≤ k → k < 200 → 0 ≤ kinds k ∧ kinds k ≤ 12 ∧ 0 ≤ vals k ∧ vals k ≤ 99999 ∧ (kinds k = 1 → vals k ≤ 12)
/-- what stands in an array of ints -/
def zj_g (f : Nat → Value) : Int → Int := fun i => match f i.toNat with
  | .int x => x.toInt
  | _ => 0
def zj_c (T : zTp) (DA : Nat → ClassId) (H : Heap) (b : Nat) (g : Int → Int) : Prop := (T b).isSome = true ∧ ∃ (n : Nat) (f : Nat → Value), H[b]? = some (arrV (DA 0) n f) ∧ g = zj_g f
def zj_obj (T : zTp) (D : va_G) (DA : Nat → ClassId) (H : Heap) (a ci : Nat) : Prop :=
  (ci = 12 → ∃ (cs : Int32) (b1 b2 b3 b4 : Nat) (g1 g2 g3 g4 : Int → Int), z_sl H a (D.2 ci 13) (.int cs) ∧ (z_sl H a (D.2 ci 20) (.ref b1) ∧ zj_c T DA H b1 g1) ∧ (z_sl H a (D.2 ci 22) (.ref b2) ∧ zj_c T DA H b2 g2) ∧ (z_sl H a (D.2 ci 23) (.ref b3) ∧ zj_c T DA H b3 g3) ∧ (z_sl H a (D.2 ci 24) (.ref b4) ∧ zj_c T DA H b4 g4) ∧ zp_J g1 cs.toInt g2 g3 g4) ∧
  (ci = 4 → ∃ (b1 b2 : Nat) (g1 g2 : Int → Int), (z_sl H a (D.2 ci 0) (.ref b1) ∧ zj_c T DA H b1 g1) ∧ (z_sl H a (D.2 ci 1) (.ref b2) ∧ zj_c T DA H b2 g2) ∧ zr_J g1 g2)
def zj_refs (ci : Nat) : List Nat := cond (Nat.beq ci 12) [20, 22, 23, 24] (cond (Nat.beq ci 4) [0, 1] [])
def zj_slots (ci : Nat) : List Nat := cond (Nat.beq ci 12) [13, 20, 22, 23, 24] (cond (Nat.beq ci 4) [0, 1] [])
/-- a type that must not be stored to: an array of a law, or no one knows -/
def zj_prot (TY : List zTy) (t : Nat) : Bool := TY.any (fun ty => match ty with
  | .inl o => (zj_refs o.1).any (fun k => match o.2[k]? with
    | some (.inr (.inl u)) => Nat.beq u t
    | _ => true)
  | .inr _ => false)
/-- objects of a law's class share no array -/
def zj_q (D : va_G) (TY : List zTy) (T : zTp) (H : Heap) : Prop := ∀ a a' t t' ci fl fl', T a = some t → TY[t]? = some (.inl (ci, fl)) → T a' = some t' → TY[t']? = some (.inl (ci, fl')) → ∀ k ∈ zj_refs ci, ∀ b, z_sl H a (D.2 ci k) (.ref b) → z_sl H a' (D.2 ci k) (.ref b) → a = a'
def z_J (D : va_G) (DA : Nat → ClassId) (TY : List zTy) (T : zTp) (H : Heap) : Prop := (∀ a t ci fl, T a = some t → TY[t]? = some (.inl (ci, fl)) → zj_obj T D DA H a ci) ∧ zj_q D TY T H
section ZFROZEN
variable {OB : Nat → Nat} {D : va_G} {DA : Nat → ClassId} {cl : List vw_C} {TY : List zTy} {T T' : zTp} {H H1 : Heap}
theorem zj_c_kept {b : Nat} {g : Int → Int} (h : zj_c T DA H b g) (hT : (T b).isSome = true → (T' b).isSome = true) (hr : H1[b]? = H[b]?) : zj_c T' DA H1 b g := by
  obtain ⟨h1, n, f, h2, h3⟩ := h
  exact ⟨hT h1, n, f, by rw [hr]; exact h2, h3⟩
theorem zj_kept {a ci : Nat} (h : zj_obj T D DA H a ci) (hT : ∀ b, (T b).isSome = true → (T' b).isSome = true) (hs : ∀ k ∈ zj_slots ci, ∀ w, z_sl H a (D.2 ci k) w → z_sl H1 a (D.2 ci k) w) (hr : ∀ k ∈ zj_refs ci, ∀ b, z_sl H a (D.2 ci k) (.ref b) → (T b).isSome = true → H1[b]? = H[b]?) : zj_obj T' D DA H1 a ci := by
  refine ⟨fun e => ?_, fun e => ?_⟩
  · obtain ⟨cs, b1, b2, b3, b4, g1, g2, g3, g4, s0, ⟨s1, c1⟩, ⟨s2, c2⟩, ⟨s3, c3⟩, ⟨s4, c4⟩, hJ⟩ := h.1 e
    subst e
    exact ⟨cs, b1, b2, b3, b4, g1, g2, g3, g4, hs 13 (by decide) _ s0, ⟨hs 20 (by decide) _ s1, zj_c_kept c1 (hT _) (hr 20 (by decide) _ s1 c1.1)⟩, ⟨hs 22 (by decide) _ s2, zj_c_kept c2 (hT _) (hr 22 (by decide) _ s2 c2.1)⟩, ⟨hs 23 (by decide) _ s3, zj_c_kept c3 (hT _) (hr 23 (by decide) _ s3 c3.1)⟩, ⟨hs 24 (by decide) _ s4, zj_c_kept c4 (hT _) (hr 24 (by decide) _ s4 c4.1)⟩, hJ⟩
  · obtain ⟨b1, b2, g1, g2, ⟨s1, c1⟩, ⟨s2, c2⟩, hJ⟩ := h.2 e
    subst e
    exact ⟨b1, b2, g1, g2, ⟨hs 0 (by decide) _ s1, zj_c_kept c1 (hT _) (hr 0 (by decide) _ s1 c1.1)⟩, ⟨hs 1 (by decide) _ s2, zj_c_kept c2 (hT _) (hr 1 (by decide) _ s2 c2.1)⟩, hJ⟩
/-- a field of a typed object by its type -/
theorem zj_fld {a t ci k : Nat} {fl : List zV} {w : Value} (hb : ∀ a t, T a = some t → ∃ ty, TY[t]? = some ty ∧ z_cell OB D DA cl T H a ty) (ha : T a = some t) (hty : TY[t]? = some (.inl (ci, fl))) {c : zV} (hc : fl[k]? = some c) (hw : z_sl H a (D.2 ci k) w) : z_v OB T c w := by
  obtain ⟨ty, h1, h2⟩ := hb a t ha
  rw [hty] at h1
  cases h1
  obtain ⟨r, q1, q2, V, ⟨cell, q3, q4, q5, q6⟩, q7⟩ := h2
  have hlt : k < r.2.2 := by rw [← q2]; exact (List.getElem?_eq_some_iff.mp hc).1
  obtain ⟨cell2, x1, x2, x3⟩ := hw
  rw [q3] at x1
  cases x1
  have := q6 k hlt
  rw [x3] at this
  cases this
  exact q7 k c hc
theorem zj_prot_ok {t t0 ci k : Nat} {fl : List zV} (h : zj_prot TY t0 = false) (hty : TY[t]? = some (.inl (ci, fl))) (hk : k ∈ zj_refs ci) : ∃ u, fl[k]? = some (.inr (.inl u)) ∧ u ≠ t0 := by
  unfold zj_prot at h
  have h1 := List.any_eq_false.mp h _ (List.mem_of_getElem? hty)
  have h1 : ¬ (zj_refs ci).any (fun k => match fl[k]? with
    | some (.inr (.inl u)) => Nat.beq u t0
    | _ => true) = true := h1
  have h2 := List.any_eq_false.mp (by simpa using h1) k hk
  split at h2
  · rename_i u hu
    exact ⟨u, hu, fun e => h2 (by rw [e]; exact Nat.beq_refl _)⟩
  · exact absurd rfl h2
theorem zj_has {a ci k : Nat} (h : zj_obj T D DA H a ci) (hk : k ∈ zj_refs ci) : ∃ b : Nat, z_sl H a (D.2 ci k) (.ref b) := by
  by_cases e : ci = 12
  · subst e
    obtain ⟨cs, b1, b2, b3, b4, g1, g2, g3, g4, s0, ⟨s1, c1⟩, ⟨s2, c2⟩, ⟨s3, c3⟩, ⟨s4, c4⟩, hJ⟩ := h.1 rfl
    have hk : k ∈ [20, 22, 23, 24] := hk
    simp only [List.mem_cons, List.not_mem_nil, or_false] at hk
    rcases hk with rfl | rfl | rfl | rfl
    · exact ⟨_, s1⟩
    · exact ⟨_, s2⟩
    · exact ⟨_, s3⟩
    · exact ⟨_, s4⟩
  · by_cases e4 : ci = 4
    · subst e4
      obtain ⟨b1, b2, g1, g2, ⟨s1, c1⟩, ⟨s2, c2⟩, hJ⟩ := h.2 rfl
      have hk : k ∈ [0, 1] := hk
      simp only [List.mem_cons, List.not_mem_nil, or_false] at hk
      rcases hk with rfl | rfl
      · exact ⟨_, s1⟩
      · exact ⟨_, s2⟩
    · exfalso
      have n1 : Nat.beq ci 12 = false := by
        cases hb : Nat.beq ci 12 with
        | false => rfl
        | true => exact absurd (Nat.eq_of_beq_eq_true hb) e
      have n2 : Nat.beq ci 4 = false := by
        cases hb : Nat.beq ci 4 with
        | false => rfl
        | true => exact absurd (Nat.eq_of_beq_eq_true hb) e4
      unfold zj_refs at hk
      rw [n1, n2] at hk
      exact absurd hk List.not_mem_nil
theorem zj_sub {ci k : Nat} (h : k ∈ zj_refs ci) : k ∈ zj_slots ci := by
  unfold zj_refs at h
  unfold zj_slots
  cases h1 : Nat.beq ci 12 with
  | true =>
    rw [h1] at h
    exact List.mem_cons_of_mem _ h
  | false =>
    rw [h1] at h
    exact h
theorem zj_fun {a k : Nat} {v w : Value} (h : z_sl H a k v) (h2 : z_sl H a k w) : v = w := by
  obtain ⟨c1, e1, _, e3⟩ := h
  obtain ⟨c2, f1, _, f3⟩ := h2
  rw [e1] at f1
  cases f1
  rw [e3] at f3
  exact Option.some.inj f3
/-- what is kept forward is kept backward -/
theorem zj_back {a ci k b : Nat} (h : zj_obj T D DA H a ci) (hk : k ∈ zj_refs ci) (hs : ∀ k ∈ zj_slots ci, ∀ w, z_sl H a (D.2 ci k) w → z_sl H1 a (D.2 ci k) w) (h1 : z_sl H1 a (D.2 ci k) (.ref b)) : z_sl H a (D.2 ci k) (.ref b) := by
  obtain ⟨b0, h0⟩ := zj_has h hk
  have := zj_fun (hs k (zj_sub hk) _ h0) h1
  cases this
  exact h0
theorem zj_q_kept (hJ : z_J D DA TY T H) (hs : ∀ a t ci fl, T a = some t → TY[t]? = some (.inl (ci, fl)) → ∀ k ∈ zj_slots ci, ∀ w, z_sl H a (D.2 ci k) w → z_sl H1 a (D.2 ci k) w) : zj_q D TY T H1 := by
  intro a a' t t' ci fl fl' h1 h2 h3 h4 k hk b h5 h6
  exact hJ.2 a a' t t' ci fl fl' h1 h2 h3 h4 k hk b (zj_back (hJ.1 a t ci fl h1 h2) hk (hs a t ci fl h1 h2) h5) (zj_back (hJ.1 a' t' ci fl' h3 h4) hk (hs a' t' ci fl' h3 h4) h6)
/-- one typed cell is written that is no law's -/
theorem zJ_set {a0 t0 : Nat} (hJ : z_J D DA TY T H) (hb : ∀ a t, T a = some t → ∃ ty, TY[t]? = some ty ∧ z_cell OB D DA cl T H a ty) (ht0 : T a0 = some t0) (hp : zj_prot TY t0 = false) (oq : ∀ b : Nat, b ≠ a0 → H1[b]? = H[b]?)
    (h0 : ∀ ci fl, TY[t0]? = some (.inl (ci, fl)) → ∀ k ∈ zj_slots ci, ∀ w, z_sl H a0 (D.2 ci k) w → z_sl H1 a0 (D.2 ci k) w) : z_J D DA TY T H1 := by
  have hs : ∀ a t ci fl, T a = some t → TY[t]? = some (.inl (ci, fl)) → ∀ k ∈ zj_slots ci, ∀ w, z_sl H a (D.2 ci k) w → z_sl H1 a (D.2 ci k) w := by
    intro a t ci fl ha hty k hk w hw
    by_cases e : a = a0
    · subst e
      rw [ht0] at ha
      cases ha
      exact h0 ci fl hty k hk w hw
    · obtain ⟨cell, x1, x2, x3⟩ := hw
      exact ⟨cell, by rw [oq a e]; exact x1, x2, x3⟩
  refine ⟨fun a t ci fl ha hty => ?_, zj_q_kept hJ hs⟩
  refine zj_kept (hJ.1 a t ci fl ha hty) (fun _ h => h) (fun k hk w hw => hs a t ci fl ha hty k hk w hw) (fun k hk b hw _ => oq b (fun e => ?_))
  · obtain ⟨u, u1, u2⟩ := zj_prot_ok hp hty hk
    obtain ⟨b2, e2, hb2⟩ := zj_fld hb ha hty u1 hw
    cases e2
    rw [e, ht0] at hb2
    exact u2 (Option.some.inj hb2).symm
/-- a cell without a type is written -/
theorem zJ_raw {a0 : Nat} (hJ : z_J D DA TY T H) (ht0 : T a0 = none) (oq : ∀ b : Nat, b ≠ a0 → H1[b]? = H[b]?) : z_J D DA TY T H1 := by
  have hs : ∀ a t ci fl, T a = some t → TY[t]? = some (.inl (ci, fl)) → ∀ k ∈ zj_slots ci, ∀ w, z_sl H a (D.2 ci k) w → z_sl H1 a (D.2 ci k) w := by
    intro a t ci fl ha hty k hk w hw
    obtain ⟨cell, x1, x2, x3⟩ := hw
    exact ⟨cell, by rw [oq a (fun e => by rw [e, ht0] at ha; cases ha)]; exact x1, x2, x3⟩
  refine ⟨fun a t ci fl ha hty => ?_, zj_q_kept hJ hs⟩
  exact zj_kept (hJ.1 a t ci fl ha hty) (fun _ h => h) (hs a t ci fl ha hty) (fun k hk b hw hs => oq b (fun e => by rw [e, ht0] at hs; cases hs))
/-- a cell gets a type; the heap may grow -/
theorem zJ_grow {a0 tau : Nat} (hJ : z_J D DA TY T H) (ht0 : T a0 = none) (hlt : ∀ a t, T a = some t → a < H.size) (oq : ∀ b : Nat, b < H.size → b ≠ a0 → H1[b]? = H[b]?) (hn : ∀ ci fl, TY[tau]? = some (.inl (ci, fl)) → ci ≠ 12 ∧ ci ≠ 4) : z_J D DA TY (z_T1 T a0 tau) H1 := by
  have hs : ∀ a t ci fl, T a = some t → TY[t]? = some (.inl (ci, fl)) → ∀ k ∈ zj_slots ci, ∀ w, z_sl H a (D.2 ci k) w → z_sl H1 a (D.2 ci k) w := by
    intro a t ci fl ha hty k hk w hw
    obtain ⟨cell, x1, x2, x3⟩ := hw
    exact ⟨cell, by rw [oq a (hlt a t ha) (fun e => by rw [e, ht0] at ha; cases ha)]; exact x1, x2, x3⟩
  have nil : ∀ {ci k : Nat} {fl : List zV}, TY[tau]? = some (.inl (ci, fl)) → k ∈ zj_refs ci → False := by
    intro ci k fl hty hk
    obtain ⟨e, e4⟩ := hn ci fl hty
    have n1 : Nat.beq ci 12 = false := by
      cases hb : Nat.beq ci 12 with
      | false => rfl
      | true => exact absurd (Nat.eq_of_beq_eq_true hb) e
    have n2 : Nat.beq ci 4 = false := by
      cases hb : Nat.beq ci 4 with
      | false => rfl
      | true => exact absurd (Nat.eq_of_beq_eq_true hb) e4
    unfold zj_refs at hk
    rw [n1, n2] at hk
    exact absurd hk List.not_mem_nil
  refine ⟨fun a t ci fl ha hty => ?_, fun a a' t t' ci fl fl' h1 h2 h3 h4 k hk b h5 h6 => ?_⟩
  · by_cases e : a = a0
    · subst e
      rw [z_T1_at] at ha
      cases ha
      obtain ⟨e1, e2⟩ := hn ci fl hty
      exact ⟨fun e => absurd e e1, fun e => absurd e e2⟩
    · rw [z_T1_ne e] at ha
      have lt : ∀ b, (T b).isSome = true → b < H.size ∧ b ≠ a0 := by
        intro b hb
        cases hT : T b with
        | none => rw [hT] at hb; cases hb
        | some u => exact ⟨hlt b u hT, fun e2 => by rw [e2, ht0] at hT; cases hT⟩
      refine zj_kept (hJ.1 a t ci fl ha hty) (fun b hb => ?_) (hs a t ci fl ha hty) (fun k hk b hw hs => oq b (lt b hs).1 (lt b hs).2)
      rw [z_T1_ne (lt b hb).2]; exact hb
  · by_cases e : a = a0
    · rw [e, z_T1_at] at h1
      cases h1
      exact absurd (nil h2 hk) (fun h => h)
    · by_cases e' : a' = a0
      · rw [e', z_T1_at] at h3
        cases h3
        exact absurd (nil h4 hk) (fun h => h)
      · rw [z_T1_ne e] at h1
        rw [z_T1_ne e'] at h3
        exact zj_q_kept hJ hs a a' t t' ci fl fl' h1 h2 h3 h4 k hk b h5 h6
/-- other types, of the same classes -/
theorem zJ_map {f : Nat → Nat} (hJ : z_J D DA TY T H) (hf : ∀ a t, T a = some t → ∀ ci fl, TY[f t]? = some (.inl (ci, fl)) → ∃ fl0, TY[t]? = some (.inl (ci, fl0))) : z_J D DA TY (fun b => (T b).map f) H := by
  have back : ∀ a t, (T a).map f = some t → ∃ u, T a = some u ∧ t = f u := by
    intro a t h
    cases hT : T a with
    | none => simp [hT] at h
    | some u => exact ⟨u, rfl, by simp [hT] at h; exact h.symm⟩
  refine ⟨fun a t ci fl ha hty => ?_, fun a a' t t' ci fl fl' h1 h2 h3 h4 k hk b h5 h6 => ?_⟩
  · obtain ⟨u, hT, rfl⟩ := back a t ha
    obtain ⟨fl0, h0⟩ := hf a u hT ci fl hty
    refine zj_kept (hJ.1 a u ci fl0 hT h0) (fun b hb => ?_) (fun k hk w hw => hw) (fun k hk b hw hs => rfl)
    cases hTb : T b with
    | none => rw [hTb] at hb; cases hb
    | some v => simp [hTb]
  · obtain ⟨u, u1, rfl⟩ := back a t h1
    obtain ⟨u', u1', rfl⟩ := back a' t' h3
    obtain ⟨f0, f1⟩ := hf a u u1 _ _ h2
    obtain ⟨f0', f1'⟩ := hf a' u' u1' _ _ h4
    exact hJ.2 a a' u u' ci f0 f0' u1 f1 u1' f1' k hk b h5 h6
/-- the heap grows -/
theorem zJ_ext (hJ : z_J D DA TY T H) (hlt : ∀ a t, T a = some t → a < H.size) (oq : ∀ b : Nat, b < H.size → H1[b]? = H[b]?) : z_J D DA TY T H1 := by
  have hs : ∀ a t ci fl, T a = some t → TY[t]? = some (.inl (ci, fl)) → ∀ k ∈ zj_slots ci, ∀ w, z_sl H a (D.2 ci k) w → z_sl H1 a (D.2 ci k) w := by
    intro a t ci fl ha hty k hk w hw
    obtain ⟨cell, x1, x2, x3⟩ := hw
    exact ⟨cell, by rw [oq a (hlt a t ha)]; exact x1, x2, x3⟩
  refine ⟨fun a t ci fl ha hty => ?_, zj_q_kept hJ hs⟩
  refine zj_kept (hJ.1 a t ci fl ha hty) (fun _ h => h) (hs a t ci fl ha hty) (fun k hk b hw hs => ?_)
  cases hT : T b with
  | none => rw [hT] at hs; cases hs
  | some u => exact oq b (hlt b u hT)
end ZFROZEN
end
section
/-! What an abstract state says; how it goes on. -/
def z_ph1 (PHI : List (List Nat)) (ph t : Nat) : Nat := match ph with
  | 0 => t
  | k + 1 => (PHI.getD k []).getD t t
/-- from 1000 on: one behind another -/
def z_phi (PHI : List (List Nat)) (ph t : Nat) : Nat := cond (Nat.blt ph 1000) (z_ph1 PHI ph t) (z_ph1 PHI (ph / 1000) (z_ph1 PHI (ph % 1000) t))
theorem z_phi_cmp {PHI : List (List Nat)} {p g t : Nat} (hp : Nat.blt p 1000 = true) (hg : Nat.blt g 1000 = true) (h0 : g ≠ 0) : z_phi PHI (g * 1000 + p) t = z_phi PHI g (z_phi PHI p t) := by
  have hp2 : p + 1 ≤ 1000 := Nat.le_of_ble_eq_true hp
  have e1 : (g * 1000 + p) / 1000 = g := by omega
  have e2 : (g * 1000 + p) % 1000 = p := by omega
  have e3 : Nat.blt (g * 1000 + p) 1000 = false := by
    cases h : Nat.blt (g * 1000 + p) 1000 with
    | false => rfl
    | true =>
      have : g * 1000 + p + 1 ≤ 1000 := Nat.le_of_ble_eq_true h
      omega
  unfold z_phi
  rw [e3, e1, e2, hp, hg]
  rfl
def z_ht (OB : Nat → Nat) (D : va_G) (DA : Nat → ClassId) (cl : List vw_C) (TY : List zTy) (T : zTp) (H : Heap) : Prop := (∀ a t, T a = some t → ∃ ty, TY[t]? = some ty ∧ z_cell OB D DA cl T H a ty) ∧ z_J D DA TY T H
/-- final fields of typed objects are as they were -/
def z_fin (D : va_G) (cl : List vw_C) (TY : List zTy) (T0 : zTp) (H0 : Heap) (T : zTp) (H : Heap) : Prop := ∀ a t ci fl, T0 a = some t → TY[t]? = some (.inl (ci, fl)) → ∃ t' fl', T a = some t' ∧ TY[t']? = some (.inl (ci, fl')) ∧ ∀ r k w, cl[ci]? = some r → k < r.2.2 → (r.2.1 k).2.2.2 = true → z_sl H0 a (D.2 ci k) w → z_sl H a (D.2 ci k) w
theorem z_fin_rf {D : va_G} {cl : List vw_C} {TY : List zTy} {T : zTp} {H : Heap} : z_fin D cl TY T H T H := fun _ t _ fl h1 h2 => ⟨t, fl, h1, h2, fun _ _ _ _ _ _ h => h⟩
theorem z_fin_tr {D : va_G} {cl : List vw_C} {TY : List zTy} {T0 T1 T2 : zTp} {H0 H1 H2 : Heap} (h : z_fin D cl TY T0 H0 T1 H1) (h2 : z_fin D cl TY T1 H1 T2 H2) : z_fin D cl TY T0 H0 T2 H2 := fun a t ci fl e1 e2 => by
  obtain ⟨t1, fl1, g1, g2, g3⟩ := h a t ci fl e1 e2
  obtain ⟨t2, fl2, k1, k2, k3⟩ := h2 a t1 ci fl1 g1 g2
  exact ⟨t2, fl2, k1, k2, fun r k w x1 x2 x3 x4 => k3 r k w x1 x2 x3 (g3 r k w x1 x2 x3 x4)⟩
def z_mem (OB : Nat → Nat) (D : va_G) (DA : Nat → ClassId) (cl : List vw_C) (TY : List zTy) (PHI : List (List Nat)) (sz : Nat) (raw : Option Nat) (pu : Bool) (T0 : zTp) (H0 : Heap) (T : zTp) (H : Heap) (locs : List Loc) (ph : Nat) : Prop :=
  z_ht OB D DA cl TY T H ∧ ((∀ a t, T a = some t → sz ≤ a) ∧ (pu = true → H = H0 ∧ T = T0) ∧ z_fin D cl TY T0 H0 T H) ∧ (∀ a t, T0 a = some t → T a = some (z_phi PHI ph t)) ∧ (∀ q, q < H0.size → T0 q = none → raw ≠ some q → T q = none ∧ H[q]? = H0[q]?) ∧ va_S (fun q => sz ≤ q) H0 H locs
def z_sat (OB : Nat → Nat) (D : va_G) (DA : Nat → ClassId) (cl : List vw_C) (TY : List zTy) (PHI : List (List Nat)) (sz : Nat) (raw : Option Nat) (pu : Bool) (T0 : zTp) (H0 : Heap) (env0 : List Value) (nL : Nat) (st : zS) (T : zTp) (H : Heap) (locs : List Loc) (env : List Value) (ls : Array Slot) (stk : List Value) : Prop :=
  env.length = z_n st ∧ (∃ w, env = env0 ++ w) ∧ z_ls nL ls env (z_L st) ∧ z_stk env (z_S st) stk ∧ z_fv OB T env (z_V st) ∧ z_ff D cl H env (z_F st) ∧ z_fe H env (z_E st) ∧ z_fr env (z_R st) ∧ z_fx D cl T sz H0.size raw H env (z_X st) ∧ z_mem OB D DA cl TY PHI sz raw pu T0 H0 T H locs (z_ph st)
/-- a value comes on the stack, with what is known of it -/
def z_psh (st : zS) (S : List Nat) (c : zV) (rs : List (Nat × Nat × Int)) : zS := (z_L st, z_n st :: S, z_n st + 1, (z_n st, c) :: z_V st, z_F st, z_E st, rs ++ z_R st, z_X st, z_C st, z_ph st)
/-- another stack -/
def z_stS (st : zS) (S : List Nat) : zS := (z_L st, S, z_n st, z_V st, z_F st, z_E st, z_R st, z_X st, z_C st, z_ph st)
section ZSAT
variable {OB : Nat → Nat} {D : va_G} {DA : Nat → ClassId} {cl : List vw_C} {TY : List zTy} {PHI : List (List Nat)} {sz : Nat} {raw : Option Nat} {pu : Bool} {T0 : zTp} {H0 : Heap} {env0 : List Value} {nL : Nat} {st : zS} {T : zTp} {H : Heap} {locs : List Loc} {env : List Value} {ls : Array Slot} {stk : List Value}
theorem z_sat_psh (h : z_sat OB D DA cl TY PHI sz raw pu T0 H0 env0 nL st T H locs env ls stk) {S : List Nat} {k : List Value} (hS : z_stk env S k) {c : zV} {v : Value} (hv : z_v OB T c v) {rs : List (Nat × Nat × Int)} (hr : z_fr (env ++ [v]) rs) :
    z_sat OB D DA cl TY PHI sz raw pu T0 H0 env0 nL (z_psh st S c rs) T H locs (env ++ [v]) ls (v :: k) := by
  obtain ⟨h1, ⟨w, h2⟩, h3, h4, h5, h6, h7, h8, h9, h10⟩ := h
  have hn : (env ++ [v])[z_n st]? = some v := by rw [← h1]; simp
  refine ⟨?_, ⟨w ++ [v], ?_⟩, z_ls_app h3, ⟨v, k, rfl, hn, z_stk_app hS⟩, ?_, z_ff_app h6, z_fe_app h7, ?_, z_fx_app h9, h10⟩
  · show (env ++ [v]).length = z_n st + 1
    rw [List.length_append, h1]; rfl
  · rw [h2, List.append_assoc]
  · intro q hq
    rcases List.mem_cons.mp hq with rfl | hq
    · exact ⟨v, hn, hv⟩
    · exact z_fv_app h5 q hq
  · intro q hq
    rcases List.mem_append.mp hq with hq | hq
    · exact hr q hq
    · exact z_fr_app h8 q hq
theorem z_sat_stS (h : z_sat OB D DA cl TY PHI sz raw pu T0 H0 env0 nL st T H locs env ls stk) {S : List Nat} {k : List Value} (hS : z_stk env S k) :
    z_sat OB D DA cl TY PHI sz raw pu T0 H0 env0 nL (z_stS st S) T H locs env ls k := by
  obtain ⟨h1, h2, h3, h4, h5⟩ := h
  exact ⟨h1, h2, h3, hS, h5⟩
/-- more is known of values -/
def z_mor (st : zS) (S : List Nat) (vs : List (Nat × zV)) (rs : List (Nat × Nat × Int)) : zS := (z_L st, S, z_n st, vs ++ z_V st, z_F st, z_E st, rs ++ z_R st, z_X st, z_C st, z_ph st)
theorem z_sat_mor (h : z_sat OB D DA cl TY PHI sz raw pu T0 H0 env0 nL st T H locs env ls stk) {S : List Nat} {k : List Value} (hS : z_stk env S k) {vs : List (Nat × zV)} (hv : z_fv OB T env vs) {rs : List (Nat × Nat × Int)} (hr : z_fr env rs) :
    z_sat OB D DA cl TY PHI sz raw pu T0 H0 env0 nL (z_mor st S vs rs) T H locs env ls k := by
  obtain ⟨h1, h2, h3, h4, h5, h6, h7, h8, h9, h10⟩ := h
  refine ⟨h1, h2, h3, hS, fun q hq => ?_, h6, h7, fun q hq => ?_, h9, h10⟩
  · rcases List.mem_append.mp hq with hq | hq
    · exact hv q hq
    · exact h5 q hq
  · rcases List.mem_append.mp hq with hq | hq
    · exact hr q hq
    · exact h8 q hq
/-- a local is set -/
def z_stL (st : zS) (S : List Nat) (i d : Nat) : zS := ((i, d) :: (z_L st).filter (fun q => !(Nat.beq q.1 i)), S, z_n st, z_V st, z_F st, z_E st, z_R st, z_X st, z_C st, z_ph st)
theorem z_ls_set {L : List (Nat × Nat)} {i d : Nat} {v : Value} {lv : List (Nat × Value)} (hc : ∀ q ∈ lv, q.2.category = 1) (h3 : ∀ q ∈ L, ∃ v, env[q.2]? = some v ∧ (q.1, v) ∈ lv) (hd : env[d]? = some v) (hv : v.category = 1) {ls' : Array Slot} (hl : lv_has ls' nL ((i, v) :: lv.filter (fun q => !(q.1 == i) && !(q.1 + 1 == i && q.2.category == 2)))) :
    z_ls nL ls' env ((i, d) :: L.filter (fun q => !(Nat.beq q.1 i))) := by
  refine ⟨_, hl, fun q hq => ?_, fun q hq => ?_⟩
  · rcases List.mem_cons.mp hq with rfl | hq
    · exact hv
    · exact hc q (List.mem_filter.mp hq).1
  · rcases List.mem_cons.mp hq with rfl | hq
    · exact ⟨v, hd, List.mem_cons_self⟩
    · obtain ⟨hq1, hq2⟩ := List.mem_filter.mp hq
      obtain ⟨w, e, m⟩ := h3 q hq1
      refine ⟨w, e, List.mem_cons_of_mem _ (List.mem_filter.mpr ⟨m, ?_⟩)⟩
      have hne : ¬ q.1 = i := by
        intro hh
        rw [hh] at hq2
        simp at hq2
      have hcat := hc _ m
      simp [hne, hcat]
theorem z_sat_stL (h : z_sat OB D DA cl TY PHI sz raw pu T0 H0 env0 nL st T H locs env ls stk) {S : List Nat} {k : List Value} (hS : z_stk env S k) {i d : Nat} {ls' : Array Slot} (hl : z_ls nL ls' env ((i, d) :: (z_L st).filter (fun q => !(Nat.beq q.1 i)))) :
    z_sat OB D DA cl TY PHI sz raw pu T0 H0 env0 nL (z_stL st S i d) T H locs env ls' k := by
  obtain ⟨h1, h2, h3, h4, h5⟩ := h
  exact ⟨h1, h2, hl, hS, h5⟩
end ZSAT
end
section
/-! Instructions that leave the heap as it is. -/
def z_Good (p : Program) (l : Launch) (e : Env) (R : Room) (s : State) (m : MethodId) (args : Array Value) (below : List Frame) (meth : Method) (c : Code) (Q : State → Prop) (OB : Nat → Nat) (D : va_G) (DA : Nat → ClassId) (cl : List vw_C) (TY : List zTy) (PHI : List (List Nat)) (sz : Nat) (raw : Option Nat) (pu : Bool) (T0 : zTp) (H0 : Heap) (env0 : List Value) (nL : Nat) (good : Nat → zS → Prop) : Prop :=
  ∀ pc st, good pc st ↔ ∀ T H locs env ls stk, z_sat OB D DA cl TY PHI sz raw pu T0 H0 env0 nL st T H locs env ls stk → W p l e R s m args below meth c H locs (z_C st).1 (z_C st).2 Q (F0 m pc ls stk)
def z_noov (lo hi : Int) : Bool := z_ile (-2147483648) lo && z_ile hi 2147483647
def z_iconst (st : zS) (n : Int) : Option zS := cond (z_noov n n) (some (z_psh st (z_S st) (.inl (n, n)) [])) none
def z_bip (st : zS) (n : Int) : Option zS := cond (z_ile (-128) n && z_ile n 127) (some (z_psh st (z_S st) (.inl (n, n)) [])) none
def z_sip (st : zS) (n : Int) : Option zS := cond (z_ile (-32768) n && z_ile n 32767) (some (z_psh st (z_S st) (.inl (n, n)) [])) none
def z_iload (st : zS) (i : Nat) : Option zS := match z_loc (z_L st) i with
  | some d => (match z_get (z_V st) d with
    | some (.inl _) => some (z_stS st (d :: z_S st))
    | _ => none)
  | none => none
/-- a reference -/
def z_isr (st : zS) (d : Nat) : Bool := match z_get (z_V st) d with
  | some (.inr (.inl _)) => true
  | some (.inr (.inr (_ + 1))) => true
  | some _ => false
  | none => (z_X st).any (fun q => Nat.beq q.1 d)
def z_isi (st : zS) (d : Nat) : Bool := match z_get (z_V st) d with
  | some (.inl _) => true
  | _ => false
def z_aload (st : zS) (i : Nat) : Option zS := match z_loc (z_L st) i with
  | some d => cond (z_isr st d) (some (z_stS st (d :: z_S st))) none
  | none => none
def z_istore (nL : Nat) (st : zS) (i : Nat) : Option zS := match z_S st with
  | d :: S => cond (z_isi st d && Nat.blt i nL) (some (z_stL st S i d)) none
  | _ => none
def z_astore (nL : Nat) (st : zS) (i : Nat) : Option zS := match z_S st with
  | d :: S => cond (z_isr st d && Nat.blt i nL) (some (z_stL st S i d)) none
  | _ => none
def z_shc (st : zS) (a : zR) (x : Nat) (k : Int) : List (Nat × Nat × Int) := cond (z_noov (a.1 + k) (a.2 + k)) [(z_n st, x, k), (x, z_n st, -k)] []
def z_iinc (nL : Nat) (st : zS) (i : Nat) (k : Int) : Option zS := match z_loc (z_L st) i with
  | some d => (match z_get (z_V st) d with
    | some (.inl a) => cond (z_noov k k && Nat.blt i nL) (some (z_stL (z_psh st (z_S st) (.inl (z_add a (k, k))) (z_shc st a d k)) (z_S st) i (z_n st))) none
    | _ => none)
  | none => none
def z_bin (f : zR → zR → zR) (st : zS) : Option zS := match z_S st with
  | y :: x :: S => (match z_get (z_V st) x, z_get (z_V st) y with
    | some (.inl a), some (.inl b) => some (z_psh st S (.inl (f a b)) [])
    | _, _ => none)
  | _ => none
/-- as z_bin, where the second is not 0 -/
def z_bin0 (f : zR → zR → zR) (st : zS) : Option zS := match z_S st with
  | y :: x :: S => (match z_get (z_V st) x, z_get (z_V st) y with
    | some (.inl a), some (.inl b) => cond (z_ile 1 b.1 || z_ile b.2 (-1)) (some (z_psh st S (.inl (f a b)) [])) none
    | _, _ => none)
  | _ => none
def z_iadd (st : zS) : Option zS := match z_S st with
  | y :: x :: S => (match z_get (z_V st) x, z_get (z_V st) y with
    | some (.inl a), some (.inl b) => some (z_psh st S (.inl (z_add a b)) (cond (z_ile b.2 b.1) (z_shc st a x b.1) (cond (z_ile a.2 a.1) (z_shc st b y a.1) [])))
    | _, _ => none)
  | _ => none
def z_lb1 (R : List (Nat × Nat × Int)) (x y : Nat) (lo : Int) : Int := match z_lbs R 2 x y with
  | some k => z_max lo k
  | none => lo
def z_isub (st : zS) : Option zS := match z_S st with
  | y :: x :: S => (match z_get (z_V st) x, z_get (z_V st) y with
    | some (.inl a), some (.inl b) => some (z_psh st S (.inl (cond (z_noov (a.1 - b.2) (a.2 - b.1)) (z_lb1 (z_R st) x y (a.1 - b.2), -(z_lb1 (z_R st) y x (b.1 - a.2))) (z_sub a b))) (cond (z_ile b.2 b.1) (z_shc st a x (-b.1)) []))
    | _, _ => none)
  | _ => none
def z_un (f : zR → zR) (st : zS) : Option zS := match z_S st with
  | x :: S => (match z_get (z_V st) x with
    | some (.inl a) => some (z_psh st S (.inl (f a)) [])
    | _ => none)
  | _ => none
def z_dup (st : zS) : Option zS := match z_S st with
  | x :: S => cond (z_isi st x || z_isr st x) (some (z_stS st (x :: x :: S))) none
  | _ => none
def z_dupx1 (st : zS) : Option zS := match z_S st with
  | x :: y :: S => cond ((z_isi st x || z_isr st x) && (z_isi st y || z_isr st y)) (some (z_stS st (x :: y :: x :: S))) none
  | _ => none
def z_dup2 (st : zS) : Option zS := match z_S st with
  | x :: y :: S => cond ((z_isi st x || z_isr st x) && (z_isi st y || z_isr st y)) (some (z_stS st (x :: y :: x :: y :: S))) none
  | _ => none
def z_pop (st : zS) : Option zS := match z_S st with
  | x :: S => cond (z_isi st x || z_isr st x) (some (z_stS st S)) none
  | _ => none
section ZPURE
variable {p : Program} {l : Launch} {e : Env} {R : Room} {s : State} {m : MethodId} {args : Array Value} {below : List Frame} {meth : Method} {c : Code} {Q : State → Prop} {cc : ByteArray} {pc : Nat}
variable {OB : Nat → Nat} {D : va_G} {DA : Nat → ClassId} {cl : List vw_C} {TY : List zTy} {PHI : List (List Nat)} {sz : Nat} {raw : Option Nat} {pu : Bool} {T0 : zTp} {H0 : Heap} {env0 : List Value} {nL : Nat} {st st' : zS} {good : Nat → zS → Prop}
theorem z_noov_ok {a b : Int} (h : z_noov a b = true) : -2147483648 ≤ a ∧ b ≤ 2147483647 := by
  unfold z_noov at h
  rw [Bool.and_eq_true] at h
  exact ⟨z_ile_ok h.1, z_ile_ok h.2⟩
theorem z_cond {α : Type} {b : Bool} {x : α} {y : α} (h : cond b (some x) none = some y) : b = true ∧ x = y := by
  cases b with
  | true => exact ⟨rfl, Option.some.inj h⟩
  | false => cases h
theorem z_r_iconst (hg : z_Good p l e R s m args below meth c Q OB D DA cl TY PHI sz raw pu T0 H0 env0 nL good) (hx : p.tables.exec = Jvm.exec) (hb : c.code = cc) {n : Int} (hd : decode cc pc = .ok (.iconst n, 1)) (h : z_iconst st n = some st') (k : good (pc + 1) st') : good pc st := by
  obtain ⟨h1, rfl⟩ := z_cond h
  obtain ⟨q1, q2⟩ := z_noov_ok h1
  refine (hg _ _).mpr fun T H locs env ls stk hs => ?_
  have hv : (Int32.ofInt n).toInt = n := Int32.toInt_ofInt_of_le (by omega) (by omega)
  exact lv_iconst hx hb hd rfl ((hg _ _).mp k T H locs _ ls _ (z_sat_psh hs hs.2.2.2.1 (c := .inl (n, n)) (v := .int (Int32.ofInt n)) ⟨_, rfl, by rw [z_in, hv]; exact ⟨Int.le_refl _, Int.le_refl _⟩⟩ (fun q hq => absurd hq List.not_mem_nil)))
theorem z_r_bip (hg : z_Good p l e R s m args below meth c Q OB D DA cl TY PHI sz raw pu T0 H0 env0 nL good) (hx : p.tables.exec = Jvm.exec) (hb : c.code = cc) {n : Int} (hd : decode cc pc = .ok (.bipush n, 2)) (h : z_bip st n = some st') (k : good (pc + 2) st') : good pc st := by
  obtain ⟨h1, rfl⟩ := z_cond h
  rw [Bool.and_eq_true] at h1
  have q1 := z_ile_ok h1.1
  have q2 := z_ile_ok h1.2
  refine (hg _ _).mpr fun T H locs env ls stk hs => ?_
  have hv : ((Int8.ofInt n).toInt32).toInt = n := by rw [Int8.toInt_toInt32]; exact Int8.toInt_ofInt_of_le (by omega) (by omega)
  exact lv_bipush hx hb hd rfl ((hg _ _).mp k T H locs _ ls _ (z_sat_psh hs hs.2.2.2.1 (c := .inl (n, n)) (v := .int ((Int8.ofInt n).toInt32)) ⟨_, rfl, by rw [z_in, hv]; exact ⟨Int.le_refl _, Int.le_refl _⟩⟩ (fun q hq => absurd hq List.not_mem_nil)))
theorem z_r_sip (hg : z_Good p l e R s m args below meth c Q OB D DA cl TY PHI sz raw pu T0 H0 env0 nL good) (hx : p.tables.exec = Jvm.exec) (hb : c.code = cc) {n : Int} (hd : decode cc pc = .ok (.sipush n, 3)) (h : z_sip st n = some st') (k : good (pc + 3) st') : good pc st := by
  obtain ⟨h1, rfl⟩ := z_cond h
  rw [Bool.and_eq_true] at h1
  have q1 := z_ile_ok h1.1
  have q2 := z_ile_ok h1.2
  refine (hg _ _).mpr fun T H locs env ls stk hs => ?_
  have hv : ((Int16.ofInt n).toInt32).toInt = n := by rw [Int16.toInt_toInt32]; exact Int16.toInt_ofInt_of_le (by omega) (by omega)
  exact lv_sipush hx hb hd rfl ((hg _ _).mp k T H locs _ ls _ (z_sat_psh hs hs.2.2.2.1 (c := .inl (n, n)) (v := .int ((Int16.ofInt n).toInt32)) ⟨_, rfl, by rw [z_in, hv]; exact ⟨Int.le_refl _, Int.le_refl _⟩⟩ (fun q hq => absurd hq List.not_mem_nil)))
theorem z_r_ldc (hg : z_Good p l e R s m args below meth c Q OB D DA cl TY PHI sz raw pu T0 H0 env0 nL good) (hx : p.tables.exec = Jvm.exec) (hb : c.code = cc) {own : String} {i : Nat} {v : Int32} (hown : s.vm.findClass own = some m.cls) (hc : (Jvm.Cond.constant own i v).before args s = true) (hd : decode cc pc = .ok (.ldc i, 2)) (h : z_iconst st v.toInt = some st') (k : good (pc + 2) st') : good pc st := by
  obtain ⟨h1, rfl⟩ := z_cond h
  refine (hg _ _).mpr fun T H locs env ls stk hs => ?_
  exact lv_ldc hx hb hown hc hd ((hg _ _).mp k T H locs _ ls _ (z_sat_psh hs hs.2.2.2.1 (c := .inl (v.toInt, v.toInt)) (v := .int v) ⟨_, rfl, Int.le_refl _, Int.le_refl _⟩ (fun q hq => absurd hq List.not_mem_nil)))
theorem z_r_ldcw (hg : z_Good p l e R s m args below meth c Q OB D DA cl TY PHI sz raw pu T0 H0 env0 nL good) (hx : p.tables.exec = Jvm.exec) (hb : c.code = cc) {own : String} {i : Nat} {v : Int32} (hown : s.vm.findClass own = some m.cls) (hc : (Jvm.Cond.constant own i v).before args s = true) (hd : decode cc pc = .ok (.ldc_w i, 3)) (h : z_iconst st v.toInt = some st') (k : good (pc + 3) st') : good pc st := by
  obtain ⟨h1, rfl⟩ := z_cond h
  refine (hg _ _).mpr fun T H locs env ls stk hs => ?_
  exact lv_ldcw hx hb hown hc hd ((hg _ _).mp k T H locs _ ls _ (z_sat_psh hs hs.2.2.2.1 (c := .inl (v.toInt, v.toInt)) (v := .int v) ⟨_, rfl, Int.le_refl _, Int.le_refl _⟩ (fun q hq => absurd hq List.not_mem_nil)))
theorem z_iload_ok {T : zTp} {H : Heap} {locs : List Loc} {env : List Value} {ls : Array Slot} {stk : List Value} {i : Nat} (h : z_iload st i = some st') (hs : z_sat OB D DA cl TY PHI sz raw pu T0 H0 env0 nL st T H locs env ls stk) : ∃ x : Int32, ls[i]? = some (.val (.int x)) ∧ z_C st' = z_C st ∧ z_sat OB D DA cl TY PHI sz raw pu T0 H0 env0 nL st' T H locs env ls (.int x :: stk) := by
  unfold z_iload at h
  split at h
  · rename_i d hd
    split at h
    · rename_i a ha
      cases h
      obtain ⟨v, e1, x, rfl, hx⟩ := z_get_ok hs.2.2.2.2.1 ha
      obtain ⟨lv, g1, g2, g3⟩ := hs.2.2.1
      obtain ⟨v', e2, hm⟩ := g3 _ (z_loc_mem hd)
      have : v' = .int x := Option.some.inj (e2.symm.trans e1)
      subst this
      exact ⟨x, g1.2.2 _ hm, rfl, z_sat_stS hs ⟨_, _, rfl, e1, hs.2.2.2.1⟩⟩
    · cases h
  · cases h
theorem z_isr_ok {T : zTp} {H : Heap} {locs : List Loc} {env : List Value} {ls : Array Slot} {stk : List Value} {d : Nat} (h : z_isr st d = true) (hs : z_sat OB D DA cl TY PHI sz raw pu T0 H0 env0 nL st T H locs env ls stk) : ∃ a : Nat, env[d]? = some (.ref a) := by
  unfold z_isr at h
  split at h
  · rename_i t ht
    obtain ⟨v, e1, a, rfl, ha⟩ := z_get_ok hs.2.2.2.2.1 ht
    exact ⟨a, e1⟩
  · rename_i k hk
    obtain ⟨v, e1, h1⟩ := z_get_ok hs.2.2.2.2.1 hk
    have h1 : v = .ref (OB (k + 1 - 1)) := h1
    exact ⟨_, by rw [e1, h1]⟩
  · cases h
  · obtain ⟨q, hq, hq2⟩ := List.any_eq_true.mp h
    obtain ⟨a, h1, _⟩ := z_fx_in hs.2.2.2.2.2.2.2.2.1 q hq
    rw [z_beq hq2] at h1
    exact ⟨a, h1⟩
theorem z_isi_ok {T : zTp} {H : Heap} {locs : List Loc} {env : List Value} {ls : Array Slot} {stk : List Value} {d : Nat} (h : z_isi st d = true) (hs : z_sat OB D DA cl TY PHI sz raw pu T0 H0 env0 nL st T H locs env ls stk) : ∃ x : Int32, env[d]? = some (.int x) := by
  unfold z_isi at h
  split at h
  · rename_i t ht
    obtain ⟨v, e1, x, rfl, hx⟩ := z_get_ok hs.2.2.2.2.1 ht
    exact ⟨x, e1⟩
  · cases h
theorem z_aload_ok {T : zTp} {H : Heap} {locs : List Loc} {env : List Value} {ls : Array Slot} {stk : List Value} {i : Nat} (h : z_aload st i = some st') (hs : z_sat OB D DA cl TY PHI sz raw pu T0 H0 env0 nL st T H locs env ls stk) : ∃ x : Nat, ls[i]? = some (.val (.ref x)) ∧ z_C st' = z_C st ∧ z_sat OB D DA cl TY PHI sz raw pu T0 H0 env0 nL st' T H locs env ls (.ref x :: stk) := by
  unfold z_aload at h
  split at h
  · rename_i d hd
    obtain ⟨h1, rfl⟩ := z_cond h
    obtain ⟨x, e1⟩ := z_isr_ok h1 hs
    obtain ⟨lv, g1, g2, g3⟩ := hs.2.2.1
    obtain ⟨v', e2, hm⟩ := g3 _ (z_loc_mem hd)
    have : v' = .ref x := Option.some.inj (e2.symm.trans e1)
    subst this
    exact ⟨x, g1.2.2 _ hm, rfl, z_sat_stS hs ⟨_, _, rfl, e1, hs.2.2.2.1⟩⟩
  · cases h
end ZPURE
end
section
/-! Rows of more instructions that leave the heap as it is. -/
section ZPURE2
variable {p : Program} {l : Launch} {e : Env} {R : Room} {s : State} {m : MethodId} {args : Array Value} {below : List Frame} {meth : Method} {c : Code} {Q : State → Prop} {cc : ByteArray} {pc : Nat}
variable {OB : Nat → Nat} {D : va_G} {DA : Nat → ClassId} {cl : List vw_C} {TY : List zTy} {PHI : List (List Nat)} {sz : Nat} {raw : Option Nat} {pu : Bool} {T0 : zTp} {H0 : Heap} {env0 : List Value} {nL : Nat} {st st' : zS} {good : Nat → zS → Prop}
theorem z_vi {OB : Nat → Nat} {T : zTp} {r : zR} {x : Int32} (h : z_in r x) : z_v OB T (.inl r) (.int x) := ⟨_, rfl, h⟩
theorem z_r_iload (hg : z_Good p l e R s m args below meth c Q OB D DA cl TY PHI sz raw pu T0 H0 env0 nL good) (hx : p.tables.exec = Jvm.exec) (hb : c.code = cc) {i : Nat} (hd : decode cc pc = .ok (.iload i, 2)) (h : z_iload st i = some st') (k : good (pc + 2) st') : good pc st := by
  refine (hg _ _).mpr fun T H locs env ls stk hs => ?_
  obtain ⟨x, h1, h2, h3⟩ := z_iload_ok h hs
  have kk := (hg _ _).mp k T H locs _ ls _ h3
  rw [h2] at kk
  exact lv_iload hx hb hd h1 kk
theorem z_r_iload_n (hg : z_Good p l e R s m args below meth c Q OB D DA cl TY PHI sz raw pu T0 H0 env0 nL good) (hx : p.tables.exec = Jvm.exec) (hb : c.code = cc) {i : Fin 4} (hd : decode cc pc = .ok (.iload_n i, 1)) (h : z_iload st i.val = some st') (k : good (pc + 1) st') : good pc st := by
  refine (hg _ _).mpr fun T H locs env ls stk hs => ?_
  obtain ⟨x, h1, h2, h3⟩ := z_iload_ok h hs
  have kk := (hg _ _).mp k T H locs _ ls _ h3
  rw [h2] at kk
  exact lv_iload_n hx hb hd rfl h1 kk
theorem z_r_aload (hg : z_Good p l e R s m args below meth c Q OB D DA cl TY PHI sz raw pu T0 H0 env0 nL good) (hx : p.tables.exec = Jvm.exec) (hb : c.code = cc) {i : Nat} (hd : decode cc pc = .ok (.aload i, 2)) (h : z_aload st i = some st') (k : good (pc + 2) st') : good pc st := by
  refine (hg _ _).mpr fun T H locs env ls stk hs => ?_
  obtain ⟨x, h1, h2, h3⟩ := z_aload_ok h hs
  have kk := (hg _ _).mp k T H locs _ ls _ h3
  rw [h2] at kk
  exact lv_aload hx hb hd h1 kk
theorem z_r_aload_n (hg : z_Good p l e R s m args below meth c Q OB D DA cl TY PHI sz raw pu T0 H0 env0 nL good) (hx : p.tables.exec = Jvm.exec) (hb : c.code = cc) {i : Fin 4} (hd : decode cc pc = .ok (.aload_n i, 1)) (h : z_aload st i.val = some st') (k : good (pc + 1) st') : good pc st := by
  refine (hg _ _).mpr fun T H locs env ls stk hs => ?_
  obtain ⟨x, h1, h2, h3⟩ := z_aload_ok h hs
  have kk := (hg _ _).mp k T H locs _ ls _ h3
  rw [h2] at kk
  exact lv_aload_n hx hb hd rfl h1 kk
theorem z_stk_cons {env : List Value} {d : Nat} {S : List Nat} {stk : List Value} {st : zS} (hS : z_S st = d :: S) (h : z_stk env (z_S st) stk) : ∃ v k, stk = v :: k ∧ env[d]? = some v ∧ z_stk env S k := by
  rw [hS] at h; exact h
theorem z_blt {a b : Nat} (h : Nat.blt a b = true) : a < b := by
  unfold Nat.blt at h
  exact Nat.le_of_ble_eq_true h
theorem z_istore_ok {T : zTp} {H : Heap} {locs : List Loc} {env : List Value} {ls : Array Slot} {stk : List Value} {i : Nat} (h : z_istore nL st i = some st') (hs : z_sat OB D DA cl TY PHI sz raw pu T0 H0 env0 nL st T H locs env ls stk) : ∃ (x : Int32) (k : List Value) (lv : List (Nat × Value)), stk = .int x :: k ∧ i < nL ∧ lv_has ls nL lv ∧ z_C st' = z_C st ∧ ∀ ls', lv_has ls' nL ((i, .int x) :: lv.filter (fun q => !(q.1 == i) && !(q.1 + 1 == i && q.2.category == 2))) → z_sat OB D DA cl TY PHI sz raw pu T0 H0 env0 nL st' T H locs env ls' k := by
  unfold z_istore at h
  split at h
  · rename_i d S hS
    obtain ⟨h1, rfl⟩ := z_cond h
    rw [Bool.and_eq_true] at h1
    obtain ⟨x, e1⟩ := z_isi_ok h1.1 hs
    obtain ⟨v, k, rfl, e2, hk⟩ := z_stk_cons hS hs.2.2.2.1
    have : v = .int x := Option.some.inj (e2.symm.trans e1)
    subst this
    obtain ⟨lv, g1, g2, g3⟩ := hs.2.2.1
    exact ⟨x, k, lv, rfl, z_blt h1.2, g1, rfl, fun ls' hl => z_sat_stL hs hk (z_ls_set g2 g3 e1 rfl hl)⟩
  · cases h
theorem z_astore_ok {T : zTp} {H : Heap} {locs : List Loc} {env : List Value} {ls : Array Slot} {stk : List Value} {i : Nat} (h : z_astore nL st i = some st') (hs : z_sat OB D DA cl TY PHI sz raw pu T0 H0 env0 nL st T H locs env ls stk) : ∃ (x : Nat) (k : List Value) (lv : List (Nat × Value)), stk = .ref x :: k ∧ i < nL ∧ lv_has ls nL lv ∧ z_C st' = z_C st ∧ ∀ ls', lv_has ls' nL ((i, .ref x) :: lv.filter (fun q => !(q.1 == i) && !(q.1 + 1 == i && q.2.category == 2))) → z_sat OB D DA cl TY PHI sz raw pu T0 H0 env0 nL st' T H locs env ls' k := by
  unfold z_astore at h
  split at h
  · rename_i d S hS
    obtain ⟨h1, rfl⟩ := z_cond h
    rw [Bool.and_eq_true] at h1
    obtain ⟨x, e1⟩ := z_isr_ok h1.1 hs
    obtain ⟨v, k, rfl, e2, hk⟩ := z_stk_cons hS hs.2.2.2.1
    have : v = .ref x := Option.some.inj (e2.symm.trans e1)
    subst this
    obtain ⟨lv, g1, g2, g3⟩ := hs.2.2.1
    exact ⟨x, k, lv, rfl, z_blt h1.2, g1, rfl, fun ls' hl => z_sat_stL hs hk (z_ls_set g2 g3 e1 rfl hl)⟩
  · cases h
theorem z_r_istore (hg : z_Good p l e R s m args below meth c Q OB D DA cl TY PHI sz raw pu T0 H0 env0 nL good) (hx : p.tables.exec = Jvm.exec) (hb : c.code = cc) {i : Nat} (hd : decode cc pc = .ok (.istore i, 2)) (h : z_istore nL st i = some st') (k : good (pc + 2) st') : good pc st := by
  refine (hg _ _).mpr fun T H locs env ls stk hs => ?_
  obtain ⟨x, k2, lv, rfl, h1, h2, h3, h4⟩ := z_istore_ok h hs
  refine lv_istore hx hb hd h2 h1 rfl fun ls' hl => ?_
  have kk := (hg _ _).mp k T H locs _ ls' _ (h4 ls' hl)
  rwa [h3] at kk
theorem z_r_istore_n (hg : z_Good p l e R s m args below meth c Q OB D DA cl TY PHI sz raw pu T0 H0 env0 nL good) (hx : p.tables.exec = Jvm.exec) (hb : c.code = cc) {i : Fin 4} (hd : decode cc pc = .ok (.istore_n i, 1)) (h : z_istore nL st i.val = some st') (k : good (pc + 1) st') : good pc st := by
  refine (hg _ _).mpr fun T H locs env ls stk hs => ?_
  obtain ⟨x, k2, lv, rfl, h1, h2, h3, h4⟩ := z_istore_ok h hs
  refine lv_istore_n hx hb hd rfl h2 h1 rfl fun ls' hl => ?_
  have kk := (hg _ _).mp k T H locs _ ls' _ (h4 ls' hl)
  rwa [h3] at kk
theorem z_r_astore (hg : z_Good p l e R s m args below meth c Q OB D DA cl TY PHI sz raw pu T0 H0 env0 nL good) (hx : p.tables.exec = Jvm.exec) (hb : c.code = cc) {i : Nat} (hd : decode cc pc = .ok (.astore i, 2)) (h : z_astore nL st i = some st') (k : good (pc + 2) st') : good pc st := by
  refine (hg _ _).mpr fun T H locs env ls stk hs => ?_
  obtain ⟨x, k2, lv, rfl, h1, h2, h3, h4⟩ := z_astore_ok h hs
  refine lv_astore hx hb hd h2 h1 rfl fun ls' hl => ?_
  have kk := (hg _ _).mp k T H locs _ ls' _ (h4 ls' hl)
  rwa [h3] at kk
theorem z_r_astore_n (hg : z_Good p l e R s m args below meth c Q OB D DA cl TY PHI sz raw pu T0 H0 env0 nL good) (hx : p.tables.exec = Jvm.exec) (hb : c.code = cc) {i : Fin 4} (hd : decode cc pc = .ok (.astore_n i, 1)) (h : z_astore nL st i.val = some st') (k : good (pc + 1) st') : good pc st := by
  refine (hg _ _).mpr fun T H locs env ls stk hs => ?_
  obtain ⟨x, k2, lv, rfl, h1, h2, h3, h4⟩ := z_astore_ok h hs
  refine lv_astore_n hx hb hd rfl h2 h1 rfl fun ls' hl => ?_
  have kk := (hg _ _).mp k T H locs _ ls' _ (h4 ls' hl)
  rwa [h3] at kk
/-- a sum with a constant, where nothing runs over -/
theorem z_shc_ok {env : List Value} {a : zR} {d : Nat} {k : Int} {x v : Int32} (hn : env.length = z_n st) (hd : env[d]? = some (.int x)) (hx : z_in a x) (hv : v.toInt = (x.toInt + k).bmod (2 ^ 32)) : z_fr (env ++ [.int v]) (z_shc st a d k) := by
  unfold z_shc
  cases hc : z_noov (a.1 + k) (a.2 + k) with
  | false => exact fun q hq => absurd hq List.not_mem_nil
  | true =>
    obtain ⟨h1, h2⟩ := z_noov_ok hc
    have e : v.toInt = x.toInt + k := by
      rw [hv]; exact z_bmod (by have := hx.1; omega) (by have := hx.2; omega)
    have e1 : (env ++ [.int v])[z_n st]? = some (.int v) := by rw [← hn]; simp
    intro q hq
    rcases List.mem_cons.mp hq with rfl | hq
    · exact ⟨x, v, e1, z_app hd, by show x.toInt + k ≤ _; omega⟩
    · rw [List.mem_singleton.mp hq]
      exact ⟨v, x, z_app hd, e1, by show v.toInt + -k ≤ _; omega⟩
theorem z_r_iinc (hg : z_Good p l e R s m args below meth c Q OB D DA cl TY PHI sz raw pu T0 H0 env0 nL good) (hx : p.tables.exec = Jvm.exec) (hb : c.code = cc) {i : Nat} {n : Int} (hd : decode cc pc = .ok (.iinc i n, 3)) (h : z_iinc nL st i n = some st') (k : good (pc + 3) st') : good pc st := by
  refine (hg _ _).mpr fun T H locs env ls stk hs => ?_
  unfold z_iinc at h
  split at h
  · rename_i d hdl
    split at h
    · rename_i a ha
      obtain ⟨h1, rfl⟩ := z_cond h
      rw [Bool.and_eq_true] at h1
      obtain ⟨v, e1, x, rfl, hxa⟩ := z_get_ok hs.2.2.2.2.1 ha
      obtain ⟨lv, g1, g2, g3⟩ := hs.2.2.1
      obtain ⟨v', e2, hm⟩ := g3 _ (z_loc_mem hdl)
      have : v' = .int x := Option.some.inj (e2.symm.trans e1)
      subst this
      obtain ⟨j, hj⟩ := List.getElem?_of_mem hm
      have hn2 := z_noov_ok h1.1
      have hv : (Int32.ofInt n).toInt = n := Int32.toInt_ofInt_of_le (by omega) (by omega)
      have hin : z_in (z_add a (n, n)) (x + Int32.ofInt n) := z_add_ok hxa ⟨by rw [hv]; exact Int.le_refl _, by rw [hv]; exact Int.le_refl _⟩
      refine lv_iinc hx hb hd g1 hj rfl (z_blt h1.2) rfl fun ls' hl => ?_
      have hp := z_sat_psh hs hs.2.2.2.1 (c := .inl (z_add a (n, n))) (v := .int (x + Int32.ofInt n)) ⟨_, rfl, hin⟩ (rs := z_shc st a d n) (z_shc_ok hs.1 e1 hxa (by rw [Int32.toInt_add, hv]))
      refine (hg _ _).mp k T H locs _ ls' _ (z_sat_stL hp (z_stk_app hs.2.2.2.1) ?_)
      exact z_ls_set g2 (fun q hq => by obtain ⟨w, ew, mw⟩ := g3 q hq; exact ⟨w, z_app ew, mw⟩) (by rw [← hs.1]; simp) rfl hl
    · cases h
  · cases h
theorem z_bin_ok {T : zTp} {H : Heap} {locs : List Loc} {env : List Value} {ls : Array Slot} {stk : List Value} {f : zR → zR → zR} {op : Int32 → Int32 → Int32} (hf : ∀ a b x y, z_in a x → z_in b y → z_in (f a b) (op x y)) (h : z_bin f st = some st') (hs : z_sat OB D DA cl TY PHI sz raw pu T0 H0 env0 nL st T H locs env ls stk) : ∃ (x y : Int32) (k : List Value), stk = .int y :: .int x :: k ∧ z_C st' = z_C st ∧ z_sat OB D DA cl TY PHI sz raw pu T0 H0 env0 nL st' T H locs (env ++ [.int (op x y)]) ls (.int (op x y) :: k) := by
  unfold z_bin at h
  split at h
  · rename_i yy xx S hS
    split at h
    · rename_i a b ha hb2
      cases h
      obtain ⟨vy, k, rfl, e1, hk⟩ := z_stk_cons hS hs.2.2.2.1
      obtain ⟨vx, k2, rfl, e2, hk2⟩ := hk
      obtain ⟨v, e3, x, rfl, hxa⟩ := z_get_ok hs.2.2.2.2.1 ha
      obtain ⟨w, e4, y, rfl, hyb⟩ := z_get_ok hs.2.2.2.2.1 hb2
      have q1 : vx = .int x := Option.some.inj (e2.symm.trans e3)
      have q2 : vy = .int y := Option.some.inj (e1.symm.trans e4)
      subst q1; subst q2
      exact ⟨x, y, k2, rfl, rfl, z_sat_psh hs hk2 (z_vi (hf _ _ _ _ hxa hyb)) (fun q hq => absurd hq List.not_mem_nil)⟩
    · cases h
  · cases h
theorem z_bin0_ok {T : zTp} {H : Heap} {locs : List Loc} {env : List Value} {ls : Array Slot} {stk : List Value} {f : zR → zR → zR} {op : Int32 → Int32 → Int32} (hf : ∀ a b x y, z_in a x → z_in b y → z_in (f a b) (op x y)) (h : z_bin0 f st = some st') (hs : z_sat OB D DA cl TY PHI sz raw pu T0 H0 env0 nL st T H locs env ls stk) : ∃ (x y : Int32) (k : List Value), stk = .int y :: .int x :: k ∧ ¬ y = 0 ∧ z_C st' = z_C st ∧ z_sat OB D DA cl TY PHI sz raw pu T0 H0 env0 nL st' T H locs (env ++ [.int (op x y)]) ls (.int (op x y) :: k) := by
  unfold z_bin0 at h
  split at h
  · rename_i yy xx S hS
    split at h
    · rename_i a b ha hb2
      obtain ⟨h1, rfl⟩ := z_cond h
      obtain ⟨vy, k, rfl, e1, hk⟩ := z_stk_cons hS hs.2.2.2.1
      obtain ⟨vx, k2, rfl, e2, hk2⟩ := hk
      obtain ⟨v, e3, x, rfl, hxa⟩ := z_get_ok hs.2.2.2.2.1 ha
      obtain ⟨w, e4, y, rfl, hyb⟩ := z_get_ok hs.2.2.2.2.1 hb2
      have q1 : vx = .int x := Option.some.inj (e2.symm.trans e3)
      have q2 : vy = .int y := Option.some.inj (e1.symm.trans e4)
      subst q1; subst q2
      refine ⟨x, y, k2, rfl, ?_, rfl, z_sat_psh hs hk2 (z_vi (hf _ _ _ _ hxa hyb)) (fun q hq => absurd hq List.not_mem_nil)⟩
      intro hy0
      have hz : y.toInt = 0 := by rw [hy0]; rfl
      rw [Bool.or_eq_true] at h1
      rcases h1 with h1 | h1
      · have := z_ile_ok h1; have := hyb.1; omega
      · have := z_ile_ok h1; have := hyb.2; omega
    · cases h
  · cases h
theorem z_un_ok {T : zTp} {H : Heap} {locs : List Loc} {env : List Value} {ls : Array Slot} {stk : List Value} {f : zR → zR} {op : Int32 → Int32} (hf : ∀ a x, z_in a x → z_in (f a) (op x)) (h : z_un f st = some st') (hs : z_sat OB D DA cl TY PHI sz raw pu T0 H0 env0 nL st T H locs env ls stk) : ∃ (x : Int32) (k : List Value), stk = .int x :: k ∧ z_C st' = z_C st ∧ z_sat OB D DA cl TY PHI sz raw pu T0 H0 env0 nL st' T H locs (env ++ [.int (op x)]) ls (.int (op x) :: k) := by
  unfold z_un at h
  split at h
  · rename_i xx S hS
    split at h
    · rename_i a ha
      cases h
      obtain ⟨vx, k2, rfl, e2, hk2⟩ := z_stk_cons hS hs.2.2.2.1
      obtain ⟨v, e3, x, rfl, hxa⟩ := z_get_ok hs.2.2.2.2.1 ha
      have q1 : vx = .int x := Option.some.inj (e2.symm.trans e3)
      subst q1
      exact ⟨x, k2, rfl, rfl, z_sat_psh hs hk2 (z_vi (hf _ _ hxa)) (fun q hq => absurd hq List.not_mem_nil)⟩
    · cases h
  · cases h
theorem z_iadd_ok {T : zTp} {H : Heap} {locs : List Loc} {env : List Value} {ls : Array Slot} {stk : List Value} (h : z_iadd st = some st') (hs : z_sat OB D DA cl TY PHI sz raw pu T0 H0 env0 nL st T H locs env ls stk) : ∃ (x y : Int32) (k : List Value), stk = .int y :: .int x :: k ∧ z_C st' = z_C st ∧ z_sat OB D DA cl TY PHI sz raw pu T0 H0 env0 nL st' T H locs (env ++ [.int (x + y)]) ls (.int (x + y) :: k) := by
  unfold z_iadd at h
  split at h
  · rename_i yy xx S hS
    split at h
    · rename_i a b ha hb2
      cases h
      obtain ⟨vy, k, rfl, e1, hk⟩ := z_stk_cons hS hs.2.2.2.1
      obtain ⟨vx, k2, rfl, e2, hk2⟩ := hk
      obtain ⟨v, e3, x, rfl, hxa⟩ := z_get_ok hs.2.2.2.2.1 ha
      obtain ⟨w, e4, y, rfl, hyb⟩ := z_get_ok hs.2.2.2.2.1 hb2
      have q1 : vx = .int x := Option.some.inj (e2.symm.trans e3)
      have q2 : vy = .int y := Option.some.inj (e1.symm.trans e4)
      subst q1; subst q2
      refine ⟨x, y, k2, rfl, rfl, z_sat_psh hs hk2 (z_vi (z_add_ok hxa hyb)) ?_⟩
      cases hc : z_ile b.2 b.1 with
      | true =>
        have hy : y.toInt = b.1 := by have := z_ile_ok hc; have := hyb.1; have := hyb.2; omega
        exact z_shc_ok hs.1 e3 hxa (by rw [Int32.toInt_add, hy])
      | false =>
        cases hc2 : z_ile a.2 a.1 with
        | true =>
          have hy : x.toInt = a.1 := by have := z_ile_ok hc2; have := hxa.1; have := hxa.2; omega
          exact z_shc_ok hs.1 e4 hyb (by rw [Int32.toInt_add, hy, Int.add_comm])
        | false => exact fun q hq => absurd hq List.not_mem_nil
    · cases h
  · cases h
theorem z_lb1_ok {env : List Value} {Rr : List (Nat × Nat × Int)} (hr : z_fr env Rr) {x y : Nat} {vx vy : Int32} {lo : Int} (h1 : env[x]? = some (.int vx)) (h2 : env[y]? = some (.int vy)) (hlo : lo ≤ vx.toInt - vy.toInt) : z_lb1 Rr x y lo ≤ vx.toInt - vy.toInt := by
  unfold z_lb1
  split
  · rename_i k hk
    obtain ⟨v, e1, e2⟩ := z_lbs_ok hr hk h1
    have : v = vy := by have := e1.symm.trans h2; cases this; rfl
    subst this
    unfold z_max
    split <;> omega
  · exact hlo
theorem z_isub_ok {T : zTp} {H : Heap} {locs : List Loc} {env : List Value} {ls : Array Slot} {stk : List Value} (h : z_isub st = some st') (hs : z_sat OB D DA cl TY PHI sz raw pu T0 H0 env0 nL st T H locs env ls stk) : ∃ (x y : Int32) (k : List Value), stk = .int y :: .int x :: k ∧ z_C st' = z_C st ∧ z_sat OB D DA cl TY PHI sz raw pu T0 H0 env0 nL st' T H locs (env ++ [.int (x - y)]) ls (.int (x - y) :: k) := by
  unfold z_isub at h
  split at h
  · rename_i yy xx S hS
    split at h
    · rename_i a b ha hb2
      cases h
      obtain ⟨vy, k, rfl, e1, hk⟩ := z_stk_cons hS hs.2.2.2.1
      obtain ⟨vx, k2, rfl, e2, hk2⟩ := hk
      obtain ⟨v, e3, x, rfl, hxa⟩ := z_get_ok hs.2.2.2.2.1 ha
      obtain ⟨w, e4, y, rfl, hyb⟩ := z_get_ok hs.2.2.2.2.1 hb2
      have q1 : vx = .int x := Option.some.inj (e2.symm.trans e3)
      have q2 : vy = .int y := Option.some.inj (e1.symm.trans e4)
      subst q1; subst q2
      have hr := hs.2.2.2.2.2.2.2.1
      refine ⟨x, y, k2, rfl, rfl, z_sat_psh hs hk2 (z_vi ?_) ?_⟩
      · cases hc : z_noov (a.1 - b.2) (a.2 - b.1) with
        | false => exact z_sub_ok hxa hyb
        | true =>
          obtain ⟨n1, n2⟩ := z_noov_ok hc
          obtain ⟨a1, a2⟩ := hxa
          obtain ⟨b1, b2⟩ := hyb
          have ev : (x - y).toInt = x.toInt - y.toInt := by rw [Int32.toInt_sub]; exact z_bmod (by omega) (by omega)
          have l1 := z_lb1_ok hr e3 e4 (lo := a.1 - b.2) (by omega)
          have l2 := z_lb1_ok hr e4 e3 (lo := b.1 - a.2) (by omega)
          exact ⟨by rw [ev]; exact l1, by rw [ev]; show _ ≤ -(z_lb1 (z_R st) yy xx (b.1 - a.2)); omega⟩
      · cases hc : z_ile b.2 b.1 with
        | true =>
          have hy : y.toInt = b.1 := by have := z_ile_ok hc; have := hyb.1; have := hyb.2; omega
          exact z_shc_ok hs.1 e3 hxa (by rw [Int32.toInt_sub, hy]; rfl)
        | false => exact fun q hq => absurd hq List.not_mem_nil
    · cases h
  · cases h
theorem z_cat_ok {T : zTp} {H : Heap} {locs : List Loc} {env : List Value} {ls : Array Slot} {stk : List Value} {d : Nat} {v : Value} (h : (z_isi st d || z_isr st d) = true) (hs : z_sat OB D DA cl TY PHI sz raw pu T0 H0 env0 nL st T H locs env ls stk) (hv : env[d]? = some v) : v.category = 1 := by
  rw [Bool.or_eq_true] at h
  rcases h with h | h
  · obtain ⟨x, e1⟩ := z_isi_ok h hs
    rw [hv] at e1; cases e1; rfl
  · obtain ⟨x, e1⟩ := z_isr_ok h hs
    rw [hv] at e1; cases e1; rfl
theorem z_r_dup (hg : z_Good p l e R s m args below meth c Q OB D DA cl TY PHI sz raw pu T0 H0 env0 nL good) (hx : p.tables.exec = Jvm.exec) (hb : c.code = cc) (hd : decode cc pc = .ok (.dup, 1)) (h : z_dup st = some st') (k : good (pc + 1) st') : good pc st := by
  refine (hg _ _).mpr fun T H locs env ls stk hs => ?_
  unfold z_dup at h
  split at h
  · rename_i x S hS
    obtain ⟨h1, rfl⟩ := z_cond h
    obtain ⟨v, k2, rfl, e1, hk⟩ := z_stk_cons hS hs.2.2.2.1
    exact lv_dup hx hb hd (z_cat_ok h1 hs e1) ((hg _ _).mp k T H locs _ ls _ (z_sat_stS hs ⟨_, _, rfl, e1, _, _, rfl, e1, hk⟩))
  · cases h
theorem z_r_dupx1 (hg : z_Good p l e R s m args below meth c Q OB D DA cl TY PHI sz raw pu T0 H0 env0 nL good) (hx : p.tables.exec = Jvm.exec) (hb : c.code = cc) (hd : decode cc pc = .ok (.dup_x1, 1)) (h : z_dupx1 st = some st') (k : good (pc + 1) st') : good pc st := by
  refine (hg _ _).mpr fun T H locs env ls stk hs => ?_
  unfold z_dupx1 at h
  split at h
  · rename_i x y S hS
    obtain ⟨h1, rfl⟩ := z_cond h
    rw [Bool.and_eq_true] at h1
    obtain ⟨v, k2, rfl, e1, w, k3, rfl, e2, hk⟩ := z_stk_cons hS hs.2.2.2.1
    exact lv_dup_x1 hx hb hd (z_cat_ok h1.1 hs e1) (z_cat_ok h1.2 hs e2) ((hg _ _).mp k T H locs _ ls _ (z_sat_stS hs ⟨_, _, rfl, e1, _, _, rfl, e2, _, _, rfl, e1, hk⟩))
  · cases h
theorem z_r_dup2 (hg : z_Good p l e R s m args below meth c Q OB D DA cl TY PHI sz raw pu T0 H0 env0 nL good) (hx : p.tables.exec = Jvm.exec) (hb : c.code = cc) (hd : decode cc pc = .ok (.dup2, 1)) (h : z_dup2 st = some st') (k : good (pc + 1) st') : good pc st := by
  refine (hg _ _).mpr fun T H locs env ls stk hs => ?_
  unfold z_dup2 at h
  split at h
  · rename_i x y S hS
    obtain ⟨h1, rfl⟩ := z_cond h
    rw [Bool.and_eq_true] at h1
    obtain ⟨v, k2, rfl, e1, w, k3, rfl, e2, hk⟩ := z_stk_cons hS hs.2.2.2.1
    exact lv_dup2_11 hx hb hd (z_cat_ok h1.1 hs e1) (z_cat_ok h1.2 hs e2) ((hg _ _).mp k T H locs _ ls _ (z_sat_stS hs ⟨_, _, rfl, e1, _, _, rfl, e2, _, _, rfl, e1, _, _, rfl, e2, hk⟩))
  · cases h
theorem z_r_pop (hg : z_Good p l e R s m args below meth c Q OB D DA cl TY PHI sz raw pu T0 H0 env0 nL good) (hx : p.tables.exec = Jvm.exec) (hb : c.code = cc) (hd : decode cc pc = .ok (.pop, 1)) (h : z_pop st = some st') (k : good (pc + 1) st') : good pc st := by
  refine (hg _ _).mpr fun T H locs env ls stk hs => ?_
  unfold z_pop at h
  split at h
  · rename_i x S hS
    obtain ⟨h1, rfl⟩ := z_cond h
    obtain ⟨v, k2, rfl, e1, hk⟩ := z_stk_cons hS hs.2.2.2.1
    exact lv_pop hx hb hd (z_cat_ok h1 hs e1) ((hg _ _).mp k T H locs _ ls _ (z_sat_stS hs hk))
  · cases h
end ZPURE2
end
section
/-! Branches. -/
abbrev zC : Type := Jvm.ClassFile.Cond
def z_rel (k : zC) (x y : Int) : Prop := match k with
  | .eq => x = y
  | .ne => x ≠ y
  | .lt => x < y
  | .ge => y ≤ x
  | .gt => y < x
  | .le => x ≤ y
def z_not (k : zC) : zC := match k with
  | .eq => .ne
  | .ne => .eq
  | .lt => .ge
  | .ge => .lt
  | .gt => .le
  | .le => .gt
def z_swp (k : zC) : zC := match k with
  | .eq => .eq
  | .ne => .ne
  | .lt => .gt
  | .ge => .le
  | .gt => .lt
  | .le => .ge
theorem z_rel_not {k : zC} {x y : Int} (h : ¬ z_rel k x y) : z_rel (z_not k) x y := by
  cases k <;> simp only [z_rel, z_not, ne_eq, Classical.not_not] at * <;> omega
theorem z_rel_swp {k : zC} {x y : Int} (h : z_rel k x y) : z_rel (z_swp k) y x := by
  cases k <;> simp only [z_rel, z_swp, ne_eq] at * <;> omega
def z_rf (k : zC) (a b : zR) : zR := match k with
  | .eq => (z_max a.1 b.1, z_min a.2 b.2)
  | .ne => (cond (z_ile b.2 b.1 && z_ile a.1 b.1 && z_ile b.1 a.1) (a.1 + 1) a.1, cond (z_ile b.2 b.1 && z_ile a.2 b.1 && z_ile b.1 a.2) (a.2 - 1) a.2)
  | .lt => (a.1, z_min a.2 (b.2 - 1))
  | .ge => (z_max a.1 b.1, a.2)
  | .gt => (z_max a.1 (b.1 + 1), a.2)
  | .le => (a.1, z_min a.2 b.2)
theorem z_min_ge {a b x : Int} (h1 : x ≤ a) (h2 : x ≤ b) : x ≤ z_min a b := by unfold z_min; split <;> omega
theorem z_max_le {a b x : Int} (h1 : a ≤ x) (h2 : b ≤ x) : z_max a b ≤ x := by unfold z_max; split <;> omega
theorem z_rf_ok {k : zC} {a b : zR} {x y : Int32} (hx : z_in a x) (hy : z_in b y) (h : z_rel k x.toInt y.toInt) : z_in (z_rf k a b) x := by
  obtain ⟨x1, x2⟩ := hx
  obtain ⟨y1, y2⟩ := hy
  cases k <;> simp only [z_rel] at h
  · exact ⟨z_max_le x1 (by omega), z_min_ge x2 (by omega)⟩
  · refine ⟨?_, ?_⟩
    · show cond _ _ _ ≤ _
      cases hc : z_ile b.2 b.1 && z_ile a.1 b.1 && z_ile b.1 a.1 with
      | false => exact x1
      | true =>
        simp only [Bool.and_eq_true] at hc
        have := z_ile_ok hc.1.1; have := z_ile_ok hc.1.2; have := z_ile_ok hc.2
        show a.1 + 1 ≤ _
        omega
    · show _ ≤ cond _ _ _
      cases hc : z_ile b.2 b.1 && z_ile a.2 b.1 && z_ile b.1 a.2 with
      | false => exact x2
      | true =>
        simp only [Bool.and_eq_true] at hc
        have := z_ile_ok hc.1.1; have := z_ile_ok hc.1.2; have := z_ile_ok hc.2
        show _ ≤ a.2 - 1
        omega
  · exact ⟨x1, z_min_ge x2 (by omega)⟩
  · exact ⟨z_max_le x1 (by omega), x2⟩
  · exact ⟨z_max_le x1 (by omega), x2⟩
  · exact ⟨x1, z_min_ge x2 (by omega)⟩
def z_rr (k : zC) (x y : Nat) : List (Nat × Nat × Int) := match k with
  | .eq => [(x, y, 0), (y, x, 0)]
  | .ne => []
  | .lt => [(y, x, 1)]
  | .ge => [(x, y, 0)]
  | .gt => [(x, y, 1)]
  | .le => [(y, x, 0)]
theorem z_rr_ok {env : List Value} {k : zC} {x y : Nat} {vx vy : Int32} (h1 : env[x]? = some (.int vx)) (h2 : env[y]? = some (.int vy)) (h : z_rel k vx.toInt vy.toInt) : z_fr env (z_rr k x y) := by
  intro q hq
  cases k <;> simp only [z_rr, z_rel, List.mem_cons, List.not_mem_nil, or_false, false_or] at hq h
  · rcases hq with rfl | rfl
    · exact ⟨vy, vx, h1, h2, by show vy.toInt + 0 ≤ _; omega⟩
    · exact ⟨vx, vy, h2, h1, by show vx.toInt + 0 ≤ _; omega⟩
  · subst hq; exact ⟨vx, vy, h2, h1, by show vx.toInt + 1 ≤ _; omega⟩
  · subst hq; exact ⟨vy, vx, h1, h2, by show vy.toInt + 0 ≤ _; omega⟩
  · subst hq; exact ⟨vy, vx, h1, h2, by show vy.toInt + 1 ≤ _; omega⟩
  · subst hq; exact ⟨vx, vy, h2, h1, by show vx.toInt + 0 ≤ _; omega⟩
/-- known to be above by so much at least -/
def z_kn (R : List (Nat × Nat × Int)) (x y : Nat) (n : Int) : Bool := match z_lbs R 2 x y with
  | some k => z_ile n k
  | none => false
theorem z_kn_ok {env : List Value} {Rr : List (Nat × Nat × Int)} (hr : z_fr env Rr) {x y : Nat} {vx vy : Int32} {n : Int} (h1 : env[x]? = some (.int vx)) (h2 : env[y]? = some (.int vy)) (h : z_kn Rr x y n = true) : vy.toInt + n ≤ vx.toInt := by
  unfold z_kn at h
  split at h
  · rename_i k hk
    obtain ⟨v, e1, e2⟩ := z_lbs_ok hr hk h1
    have : v = vy := by have := e1.symm.trans h2; cases this; rfl
    subst this
    have := z_ile_ok h
    omega
  · cases h
/-- the same, by more steps -/
def z_kx (R : List (Nat × Nat × Int)) (x y : Nat) (n : Int) : Bool := match z_lbs R 6 x y with
  | some k => z_ile n k
  | none => false
theorem z_kx_ok {env : List Value} {Rr : List (Nat × Nat × Int)} (hr : z_fr env Rr) {x y : Nat} {vx vy : Int32} {n : Int} (h1 : env[x]? = some (.int vx)) (h2 : env[y]? = some (.int vy)) (h : z_kx Rr x y n = true) : vy.toInt + n ≤ vx.toInt := by
  unfold z_kx at h
  split at h
  · rename_i k hk
    obtain ⟨v, e1, e2⟩ := z_lbs_ok hr hk h1
    have : v = vy := by have := e1.symm.trans h2; cases this; rfl
    subst this
    have := z_ile_ok h
    omega
  · cases h
/-- the relation can't be -/
def z_bad (R : List (Nat × Nat × Int)) (k : zC) (x y : Nat) : Bool := match k with
  | .eq => z_kn R x y 1 || z_kn R y x 1
  | .ne => z_kn R x y 0 && z_kn R y x 0
  | .lt => z_kn R x y 0
  | .ge => z_kn R y x 1
  | .gt => z_kn R y x 0
  | .le => z_kn R x y 1
theorem z_bad_ok {env : List Value} {Rr : List (Nat × Nat × Int)} (hr : z_fr env Rr) {k : zC} {x y : Nat} {vx vy : Int32} (h1 : env[x]? = some (.int vx)) (h2 : env[y]? = some (.int vy)) (h : z_bad Rr k x y = true) (hk : z_rel k vx.toInt vy.toInt) : False := by
  cases k <;> simp only [z_bad, z_rel, Bool.or_eq_true, Bool.and_eq_true] at h hk
  · rcases h with h | h
    · have := z_kn_ok hr h1 h2 h; omega
    · have := z_kn_ok hr h2 h1 h; omega
  · have := z_kn_ok hr h1 h2 h.1; have := z_kn_ok hr h2 h1 h.2; omega
  · have := z_kn_ok hr h1 h2 h; omega
  · have := z_kn_ok hr h2 h1 h; omega
  · have := z_kn_ok hr h2 h1 h; omega
  · have := z_kn_ok hr h1 h2 h; omega
/-- where a branch goes if the relation holds; nowhere if it can't -/
def z_bri (st : zS) (k : zC) (x y : Nat) (a b : zR) (S : List Nat) (pc : Nat) : List (Nat × zS) :=
  cond (z_ile (z_rf k a b).1 (z_rf k a b).2 && z_ile (z_rf (z_swp k) b a).1 (z_rf (z_swp k) b a).2 && !(z_bad (z_R st) k x y)) [(pc, z_mor st S [(x, .inl (z_rf k a b)), (y, .inl (z_rf (z_swp k) b a))] (z_rr k x y))] []
def z_brz (st : zS) (k : zC) (x : Nat) (a : zR) (S : List Nat) (pc : Nat) : List (Nat × zS) :=
  cond (z_ile (z_rf k a (0, 0)).1 (z_rf k a (0, 0)).2) [(pc, z_mor st S [(x, .inl (z_rf k a (0, 0)))] [])] []
def z_to (pc : Nat) (off : Int) : Option Nat := cond (z_ile 0 ((pc : Int) + off)) (some ((pc : Int) + off).toNat) none
theorem z_to_ok {pc : Nat} {off : Int} {t : Nat} (h : z_to pc off = some t) : (pc : Int) + off = (t : Int) := by
  obtain ⟨h1, rfl⟩ := z_cond h
  have := z_ile_ok h1
  omega
def z_icmp (st : zS) (pc : Nat) (k : zC) (off : Int) : Option (List (Nat × zS)) := match z_S st with
  | y :: x :: S => (match z_get (z_V st) x, z_get (z_V st) y, z_to pc off with
    | some (.inl a), some (.inl b), some t => some (z_bri st k x y a b S t ++ z_bri st (z_not k) x y a b S (pc + 3))
    | _, _, _ => none)
  | _ => none
def z_icnd (st : zS) (pc : Nat) (k : zC) (off : Int) : Option (List (Nat × zS)) := match z_S st with
  | x :: S => (match z_get (z_V st) x, z_to pc off with
    | some (.inl a), some t => some (z_brz st k x a S t ++ z_brz st (z_not k) x a S (pc + 3))
    | _, _ => none)
  | _ => none
section ZJUMPS
variable {p : Program} {l : Launch} {e : Env} {R : Room} {s : State} {m : MethodId} {args : Array Value} {below : List Frame} {meth : Method} {c : Code} {Q : State → Prop} {cc : ByteArray} {pc : Nat}
variable {OB : Nat → Nat} {D : va_G} {DA : Nat → ClassId} {cl : List vw_C} {TY : List zTy} {PHI : List (List Nat)} {sz : Nat} {raw : Option Nat} {pu : Bool} {T0 : zTp} {H0 : Heap} {env0 : List Value} {nL : Nat} {st st' : zS} {good : Nat → zS → Prop}
variable {H : Heap} {locs : List Loc} {cells slots : Nat} {ls : Array Slot} {rest : List Value}
theorem z_icmp_row (hx : p.tables.exec = Jvm.exec) (hb : c.code = cc) {x y : Int32} {k : zC} {off : Int} {t : Nat} (hd : decode cc pc = .ok (.if_icmp k off, 3)) (ht : (pc : Int) + off = (t : Int))
    (kt : z_rel k x.toInt y.toInt → W p l e R s m args below meth c H locs cells slots Q (F0 m t ls rest)) (kf : z_rel (z_not k) x.toInt y.toInt → W p l e R s m args below meth c H locs cells slots Q (F0 m (pc + 3) ls rest)) : W p l e R s m args below meth c H locs cells slots Q (F0 m pc ls (.int y :: .int x :: rest)) := by
  cases k
  · exact lv_icmp_eq hx hb hd ht (fun h => kt (by rw [h]; rfl)) (fun h => kf (fun q => h (Int32.toInt_inj.mp q)))
  · exact lv_icmp_ne hx hb hd ht (fun h => kt (fun q => h (Int32.toInt_inj.mp q))) (fun h => kf (by rw [h]; rfl))
  · exact lv_icmp_lt hx hb hd ht (fun h => kt (Int32.lt_iff_toInt_lt.mp h)) (fun h => kf (Int.not_lt.mp (fun q => h (Int32.lt_iff_toInt_lt.mpr q))))
  · exact lv_icmp_ge hx hb hd ht (fun h => kt (Int32.le_iff_toInt_le.mp h)) (fun h => kf (Int.not_le.mp (fun q => h (Int32.le_iff_toInt_le.mpr q))))
  · exact lv_icmp_gt hx hb hd ht (fun h => kt (Int32.lt_iff_toInt_lt.mp h)) (fun h => kf (Int.not_lt.mp (fun q => h (Int32.lt_iff_toInt_lt.mpr q))))
  · exact lv_icmp_le hx hb hd ht (fun h => kt (Int32.le_iff_toInt_le.mp h)) (fun h => kf (Int.not_le.mp (fun q => h (Int32.le_iff_toInt_le.mpr q))))
theorem z_icnd_row (hx : p.tables.exec = Jvm.exec) (hb : c.code = cc) {x : Int32} {k : zC} {off : Int} {t : Nat} (hd : decode cc pc = .ok (.ifCond k off, 3)) (ht : (pc : Int) + off = (t : Int))
    (kt : z_rel k x.toInt 0 → W p l e R s m args below meth c H locs cells slots Q (F0 m t ls rest)) (kf : z_rel (z_not k) x.toInt 0 → W p l e R s m args below meth c H locs cells slots Q (F0 m (pc + 3) ls rest)) : W p l e R s m args below meth c H locs cells slots Q (F0 m pc ls (.int x :: rest)) := by
  have z0 : (0 : Int32).toInt = 0 := rfl
  cases k
  · exact lv_if_eq hx hb hd ht (fun h => kt (by rw [h]; rfl)) (fun h => kf (fun q => h (Int32.toInt_inj.mp (q.trans z0.symm))))
  · exact lv_if_ne hx hb hd ht (fun h => kt (fun q => h (Int32.toInt_inj.mp (q.trans z0.symm)))) (fun h => kf (by rw [h]; rfl))
  · exact lv_if_lt hx hb hd ht (fun h => kt (Int32.lt_iff_toInt_lt.mp h)) (fun h => kf (Int.not_lt.mp (fun q => h (Int32.lt_iff_toInt_lt.mpr q))))
  · exact lv_if_ge hx hb hd ht (fun h => kt (Int32.le_iff_toInt_le.mp h)) (fun h => kf (Int.not_le.mp (fun q => h (Int32.le_iff_toInt_le.mpr q))))
  · exact lv_if_gt hx hb hd ht (fun h => kt (Int32.lt_iff_toInt_lt.mp h)) (fun h => kf (Int.not_lt.mp (fun q => h (Int32.lt_iff_toInt_lt.mpr q))))
  · exact lv_if_le hx hb hd ht (fun h => kt (Int32.le_iff_toInt_le.mp h)) (fun h => kf (Int.not_le.mp (fun q => h (Int32.le_iff_toInt_le.mpr q))))
theorem z_bri_ok (hg : z_Good p l e R s m args below meth c Q OB D DA cl TY PHI sz raw pu T0 H0 env0 nL good) {T : zTp} {env : List Value} {stk : List Value} (hs : z_sat OB D DA cl TY PHI sz raw pu T0 H0 env0 nL st T H locs env ls stk) {k : zC} {x y : Nat} {vx vy : Int32} {a b : zR} {S : List Nat} {t : Nat} {kk : List Value} (e1 : env[x]? = some (.int vx)) (e2 : env[y]? = some (.int vy)) (hxa : z_in a vx) (hyb : z_in b vy) (hS : z_stk env S kk)
    (hall : ∀ q ∈ z_bri st k x y a b S t, good q.1 q.2) (hr : z_rel k vx.toInt vy.toInt) : W p l e R s m args below meth c H locs (z_C st).1 (z_C st).2 Q (F0 m t ls kk) := by
  have r1 := z_rf_ok hxa hyb hr
  have r2 := z_rf_ok hyb hxa (z_rel_swp hr)
  unfold z_bri at hall
  have hc : (z_ile (z_rf k a b).1 (z_rf k a b).2 && z_ile (z_rf (z_swp k) b a).1 (z_rf (z_swp k) b a).2 && !(z_bad (z_R st) k x y)) = true := by
    simp only [Bool.and_eq_true, Bool.not_eq_true']
    refine ⟨⟨decide_eq_true (Int.le_trans r1.1 r1.2), decide_eq_true (Int.le_trans r2.1 r2.2)⟩, ?_⟩
    cases hb : z_bad (z_R st) k x y with
    | false => rfl
    | true => exact (z_bad_ok hs.2.2.2.2.2.2.2.1 e1 e2 hb hr).elim
  rw [hc] at hall
  have := hall _ (List.mem_singleton.mpr rfl)
  refine (hg _ _).mp this T H locs env ls kk (z_sat_mor hs hS (fun q hq => ?_) (z_rr_ok e1 e2 hr))
  rcases List.mem_cons.mp hq with rfl | hq
  · exact ⟨_, e1, z_vi r1⟩
  · rw [List.mem_singleton.mp hq]; exact ⟨_, e2, z_vi r2⟩
theorem z_brz_ok (hg : z_Good p l e R s m args below meth c Q OB D DA cl TY PHI sz raw pu T0 H0 env0 nL good) {T : zTp} {env : List Value} {stk : List Value} (hs : z_sat OB D DA cl TY PHI sz raw pu T0 H0 env0 nL st T H locs env ls stk) {k : zC} {x : Nat} {vx : Int32} {a : zR} {S : List Nat} {t : Nat} {kk : List Value} (e1 : env[x]? = some (.int vx)) (hxa : z_in a vx) (hS : z_stk env S kk)
    (hall : ∀ q ∈ z_brz st k x a S t, good q.1 q.2) (hr : z_rel k vx.toInt 0) : W p l e R s m args below meth c H locs (z_C st).1 (z_C st).2 Q (F0 m t ls kk) := by
  have r1 := z_rf_ok (b := (0, 0)) (y := 0) hxa ⟨Int.le_refl _, Int.le_refl _⟩ hr
  unfold z_brz at hall
  have hc : z_ile (z_rf k a (0, 0)).1 (z_rf k a (0, 0)).2 = true := decide_eq_true (Int.le_trans r1.1 r1.2)
  rw [hc] at hall
  have := hall _ (List.mem_singleton.mpr rfl)
  refine (hg _ _).mp this T H locs env ls kk (z_sat_mor hs hS (fun q hq => ?_) (fun q hq => absurd hq List.not_mem_nil))
  rw [List.mem_singleton.mp hq]; exact ⟨_, e1, z_vi r1⟩
theorem z_r_icmp (hg : z_Good p l e R s m args below meth c Q OB D DA cl TY PHI sz raw pu T0 H0 env0 nL good) (hx : p.tables.exec = Jvm.exec) (hb : c.code = cc) {k : zC} {off : Int} (hd : decode cc pc = .ok (.if_icmp k off, 3)) {L : List (Nat × zS)} (h : z_icmp st pc k off = some L) (hall : ∀ q ∈ L, good q.1 q.2) : good pc st := by
  refine (hg _ _).mpr fun T H locs env ls stk hs => ?_
  unfold z_icmp at h
  split at h
  · rename_i y x S hS
    split at h
    · rename_i a b t ha hb2 ht
      cases h
      obtain ⟨vy, kk, rfl, e1, hk⟩ := z_stk_cons hS hs.2.2.2.1
      obtain ⟨vx, k2, rfl, e2, hk2⟩ := hk
      obtain ⟨v, e3, x1, rfl, hxa⟩ := z_get_ok hs.2.2.2.2.1 ha
      obtain ⟨w, e4, y1, rfl, hyb⟩ := z_get_ok hs.2.2.2.2.1 hb2
      have q1 : vx = .int x1 := Option.some.inj (e2.symm.trans e3)
      have q2 : vy = .int y1 := Option.some.inj (e1.symm.trans e4)
      subst q1; subst q2
      exact z_icmp_row hx hb hd (z_to_ok ht) (z_bri_ok hg hs e3 e4 hxa hyb hk2 (fun q hq => hall q (List.mem_append_left _ hq))) (z_bri_ok hg hs e3 e4 hxa hyb hk2 (fun q hq => hall q (List.mem_append_right _ hq)))
    · cases h
  · cases h
theorem z_r_icnd (hg : z_Good p l e R s m args below meth c Q OB D DA cl TY PHI sz raw pu T0 H0 env0 nL good) (hx : p.tables.exec = Jvm.exec) (hb : c.code = cc) {k : zC} {off : Int} (hd : decode cc pc = .ok (.ifCond k off, 3)) {L : List (Nat × zS)} (h : z_icnd st pc k off = some L) (hall : ∀ q ∈ L, good q.1 q.2) : good pc st := by
  refine (hg _ _).mpr fun T H locs env ls stk hs => ?_
  unfold z_icnd at h
  split at h
  · rename_i x S hS
    split at h
    · rename_i a t ha ht
      cases h
      obtain ⟨vx, k2, rfl, e2, hk2⟩ := z_stk_cons hS hs.2.2.2.1
      obtain ⟨v, e3, x1, rfl, hxa⟩ := z_get_ok hs.2.2.2.2.1 ha
      have q1 : vx = .int x1 := Option.some.inj (e2.symm.trans e3)
      subst q1
      exact z_icnd_row hx hb hd (z_to_ok ht) (z_brz_ok hg hs e3 hxa hk2 (fun q hq => hall q (List.mem_append_left _ hq))) (z_brz_ok hg hs e3 hxa hk2 (fun q hq => hall q (List.mem_append_right _ hq)))
    · cases h
  · cases h
theorem z_r_goto (hg : z_Good p l e R s m args below meth c Q OB D DA cl TY PHI sz raw pu T0 H0 env0 nL good) (hx : p.tables.exec = Jvm.exec) (hb : c.code = cc) {off : Int} {t : Nat} (hd : decode cc pc = .ok (.goto off, 3)) (h : z_to pc off = some t) (k : good t st) : good pc st :=
  (hg _ _).mpr fun T H locs env ls stk hs => lv_goto hx hb hd (z_to_ok h) ((hg _ _).mp k T H locs env ls stk hs)
end ZJUMPS
end
section
/-! Switches. -/
def z_tswL (st : zS) (x : Nat) (S : List Nat) (pc : Nat) (a : zR) : Int → List Int → Option (List (Nat × zS))
  | _, [] => some []
  | key, off :: r => match z_tswL st x S pc a (key + 1) r with
    | some L => cond (z_ile a.1 key && z_ile key a.2) (match z_to pc off with
      | some t => some ((t, z_mor st S [(x, .inl (key, key))] []) :: L)
      | none => none) (some L)
    | none => none
theorem z_tswL_ok {st : zS} {x : Nat} {S : List Nat} {pc : Nat} {a : zR} : ∀ (offs : List Int) (key : Int) (L : List (Nat × zS)) (i : Nat) (off : Int), z_tswL st x S pc a key offs = some L → offs[i]? = some off → a.1 ≤ key + i → key + i ≤ a.2 → ∃ t, z_to pc off = some t ∧ (t, z_mor st S [(x, .inl (key + i, key + i))] []) ∈ L
  | [], key, L, i, off, h, hi, _, _ => by simp at hi
  | o :: r, key, L, i, off, h, hi, h1, h2 => by
    unfold z_tswL at h
    cases hr : z_tswL st x S pc a (key + 1) r with
    | none => rw [hr] at h; cases h
    | some L1 =>
      rw [hr] at h
      cases i with
      | zero =>
        have ho : o = off := by simpa using hi
        subst ho
        have hc : (z_ile a.1 key && z_ile key a.2) = true := by
          rw [Bool.and_eq_true]
          exact ⟨decide_eq_true (by simpa using h1), decide_eq_true (by simpa using h2)⟩
        rw [hc] at h
        cases ht : z_to pc o with
        | none => rw [ht] at h; cases h
        | some t =>
          rw [ht] at h
          cases h
          refine ⟨t, rfl, ?_⟩
          have : key + ((0 : Nat) : Int) = key := by omega
          rw [this]
          exact List.mem_cons_self
      | succ j =>
        have hi' : r[j]? = some off := by simpa using hi
        have e : key + ((j + 1 : Nat) : Int) = key + 1 + (j : Int) := by omega
        rw [e] at h1 h2 ⊢
        obtain ⟨t, h3, h4⟩ := z_tswL_ok r (key + 1) L1 j off hr hi' h1 h2
        refine ⟨t, h3, ?_⟩
        cases hc : (z_ile a.1 key && z_ile key a.2) with
        | false => rw [hc] at h; cases h; exact h4
        | true =>
          rw [hc] at h
          cases ht : z_to pc o with
          | none => rw [ht] at h; cases h
          | some t2 => rw [ht] at h; cases h; exact List.mem_cons_of_mem _ h4
def z_tsw (st : zS) (pc : Nat) (dflt lo hi : Int) (offs : List Int) : Option (List (Nat × zS)) := match z_S st with
  | x :: S => (match z_get (z_V st) x, z_to pc dflt with
    | some (.inl a), some t => (match z_tswL st x S pc a lo offs with
      | some L => cond (z_ile lo (hi + 1) && Nat.beq offs.length (hi + 1 - lo).toNat) (some (cond (z_ile lo a.1) [] [(t, z_mor st S [(x, .inl (a.1, z_min a.2 (lo - 1)))] [])] ++ cond (z_ile a.2 hi) [] [(t, z_mor st S [(x, .inl (z_max a.1 (hi + 1), a.2))] [])] ++ L)) none
      | none => none)
    | _, _ => none)
  | _ => none
def z_lswL (st : zS) (x : Nat) (S : List Nat) (pc : Nat) (t0 : Nat) : zR → List (Int × Int) → Option (List (Nat × zS))
  | a, [] => some (cond (z_ile a.1 a.2) [(t0, z_mor st S [(x, .inl a)] [])] [])
  | a, q :: r => match z_lswL st x S pc t0 (z_rf .ne a (q.1, q.1)) r with
    | some L => cond (z_ile a.1 q.1 && z_ile q.1 a.2) (match z_to pc q.2 with
      | some t => some ((t, z_mor st S [(x, .inl (q.1, q.1))] []) :: L)
      | none => none) (some L)
    | none => none
def z_lsw (st : zS) (pc : Nat) (dflt : Int) (ps : List (Int × Int)) : Option (List (Nat × zS)) := match z_S st with
  | x :: S => (match z_get (z_V st) x, z_to pc dflt with
    | some (.inl a), some t => cond ((ps.zip (ps.drop 1)).all (fun (a, next) => a.1 < next.1)) (z_lswL st x S pc t a ps) none
    | _, _ => none)
  | _ => none
theorem z_lswL_ok {st : zS} {x : Nat} {S : List Nat} {pc t0 : Nat} {dflt : Int} (h0 : z_to pc dflt = some t0) {v : Int32} : ∀ (ps : List (Int × Int)) (a : zR) (L : List (Nat × zS)), z_lswL st x S pc t0 a ps = some L → z_in a v → ∃ t r, z_to pc (lookupswitch.offset ps dflt v.toInt) = some t ∧ z_in r v ∧ (t, z_mor st S [(x, .inl r)] []) ∈ L
  | [], a, L, h, hv => by
    unfold z_lswL at h
    have hc : z_ile a.1 a.2 = true := decide_eq_true (Int.le_trans hv.1 hv.2)
    rw [hc] at h
    cases h
    exact ⟨t0, a, h0, hv, List.mem_singleton.mpr rfl⟩
  | q :: r, a, L, h, hv => by
    obtain ⟨key, off⟩ := q
    unfold z_lswL at h
    rw [lookupswitch.offset_cons]
    cases hr : z_lswL st x S pc t0 (z_rf .ne a (key, key)) r with
    | none => rw [hr] at h; cases h
    | some L1 =>
      rw [hr] at h
      by_cases hk : key = v.toInt
      · rw [if_pos hk]
        have hc : (z_ile a.1 key && z_ile key a.2) = true := by
          rw [Bool.and_eq_true]
          exact ⟨decide_eq_true (by rw [hk]; exact hv.1), decide_eq_true (by rw [hk]; exact hv.2)⟩
        rw [hc] at h
        cases ht : z_to pc off with
        | none => rw [ht] at h; cases h
        | some t =>
          rw [ht] at h
          cases h
          exact ⟨t, (key, key), rfl, ⟨by rw [hk]; exact Int.le_refl _, by rw [hk]; exact Int.le_refl _⟩, List.mem_cons_self⟩
      · rw [if_neg hk]
        have hv2 : z_in (z_rf .ne a (key, key)) v := by
          by_cases hb : -2147483648 ≤ key ∧ key ≤ 2147483647
          · have hkk : (Int32.ofInt key).toInt = key := Int32.toInt_ofInt_of_le (by omega) (by omega)
            exact z_rf_ok (y := Int32.ofInt key) hv ⟨by rw [hkk]; exact Int.le_refl _, by rw [hkk]; exact Int.le_refl _⟩ (by rw [hkk]; exact fun q => hk q.symm)
          · obtain ⟨x1, x2⟩ := hv
            have l := z_lo v
            have u := z_hi v
            refine ⟨?_, ?_⟩
            · show cond _ _ _ ≤ _
              cases hc : z_ile key key && z_ile a.1 key && z_ile key a.1 with
              | false => exact x1
              | true =>
                simp only [Bool.and_eq_true] at hc
                have := z_ile_ok hc.1.2; have := z_ile_ok hc.2
                show a.1 + 1 ≤ _
                omega
            · show _ ≤ cond _ _ _
              cases hc : z_ile key key && z_ile a.2 key && z_ile key a.2 with
              | false => exact x2
              | true =>
                simp only [Bool.and_eq_true] at hc
                have := z_ile_ok hc.1.2; have := z_ile_ok hc.2
                show _ ≤ a.2 - 1
                omega
        obtain ⟨t, r2, h3, h4, h5⟩ := z_lswL_ok h0 r _ L1 hr hv2
        refine ⟨t, r2, h3, h4, ?_⟩
        cases hc : (z_ile a.1 key && z_ile key a.2) with
        | false => rw [hc] at h; cases h; exact h5
        | true =>
          rw [hc] at h
          cases ht : z_to pc off with
          | none => rw [ht] at h; cases h
          | some t2 => rw [ht] at h; cases h; exact List.mem_cons_of_mem _ h5
section ZSWITCH
variable {p : Program} {l : Launch} {e : Env} {R : Room} {s : State} {m : MethodId} {args : Array Value} {below : List Frame} {meth : Method} {c : Code} {Q : State → Prop} {cc : ByteArray} {pc : Nat}
variable {OB : Nat → Nat} {D : va_G} {DA : Nat → ClassId} {cl : List vw_C} {TY : List zTy} {PHI : List (List Nat)} {sz : Nat} {raw : Option Nat} {pu : Bool} {T0 : zTp} {H0 : Heap} {env0 : List Value} {nL : Nat} {st st' : zS} {good : Nat → zS → Prop}
theorem z_r_tsw (hg : z_Good p l e R s m args below meth c Q OB D DA cl TY PHI sz raw pu T0 H0 env0 nL good) (hx : p.tables.exec = Jvm.exec) (hb : c.code = cc) {dflt lo hi : Int} {offs : Array Int} {len : Nat} (hd : decode cc pc = .ok (.tableswitch dflt lo hi offs, len)) {L : List (Nat × zS)} (h : z_tsw st pc dflt lo hi offs.toList = some L) (hall : ∀ q ∈ L, good q.1 q.2) : good pc st := by
  refine (hg _ _).mpr fun T H locs env ls stk hs => ?_
  unfold z_tsw at h
  split at h
  · rename_i x S hS
    split at h
    · rename_i a t ha ht
      split at h
      · rename_i L1 hL1
        obtain ⟨hc, rfl⟩ := z_cond h
        rw [Bool.and_eq_true] at hc
        have c1 := z_ile_ok hc.1
        have c2 := z_beq hc.2
        obtain ⟨vx, k2, rfl, e2, hk2⟩ := z_stk_cons hS hs.2.2.2.1
        obtain ⟨v, e3, x1, rfl, hxa⟩ := z_get_ok hs.2.2.2.2.1 ha
        have q1 : vx = .int x1 := Option.some.inj (e2.symm.trans e3)
        subst q1
        have go : ∀ (t2 : Nat) (r : zR), z_in r x1 → (t2, z_mor st S [(x, .inl r)] []) ∈ (cond (z_ile lo a.1) [] [(t, z_mor st S [(x, .inl (a.1, z_min a.2 (lo - 1)))] [])] ++ cond (z_ile a.2 hi) [] [(t, z_mor st S [(x, .inl (z_max a.1 (hi + 1), a.2))] [])] ++ L1) → W p l e R s m args below meth c H locs (z_C st).1 (z_C st).2 Q (F0 m t2 ls k2) := by
          intro t2 r hr hm
          refine (hg _ _).mp (hall _ hm) T H locs env ls k2 (z_sat_mor hs hk2 (fun q hq => ?_) (fun q hq => absurd hq List.not_mem_nil))
          rw [List.mem_singleton.mp hq]; exact ⟨_, e3, z_vi hr⟩
        by_cases hlo : x1.toInt < lo
        · refine lv_tableOut hx hb hd (Or.inl hlo) (z_to_ok ht) (go t (a.1, z_min a.2 (lo - 1)) ⟨hxa.1, z_min_ge hxa.2 (by omega)⟩ ?_)
          have : z_ile lo a.1 = false := by
            cases hq : z_ile lo a.1 with
            | false => rfl
            | true => have := z_ile_ok hq; have := hxa.1; omega
          rw [this]
          exact List.mem_append_left _ (List.mem_append_left _ (List.mem_singleton.mpr rfl))
        · by_cases hhi : hi < x1.toInt
          · refine lv_tableOut hx hb hd (Or.inr hhi) (z_to_ok ht) (go t (z_max a.1 (hi + 1), a.2) ⟨z_max_le hxa.1 (by omega), hxa.2⟩ ?_)
            have : z_ile a.2 hi = false := by
              cases hq : z_ile a.2 hi with
              | false => rfl
              | true => have := z_ile_ok hq; have := hxa.2; omega
            rw [this]
            exact List.mem_append_left _ (List.mem_append_right _ (List.mem_singleton.mpr rfl))
          · have hlt : (x1.toInt - lo).toNat < offs.toList.length := by omega
            have hgo := List.getElem?_eq_getElem hlt
            have ek : lo + (((x1.toInt - lo).toNat : Nat) : Int) = x1.toInt := by omega
            obtain ⟨t2, h3, h4⟩ := z_tswL_ok offs.toList lo L1 (x1.toInt - lo).toNat _ hL1 hgo (by rw [ek]; exact hxa.1) (by rw [ek]; exact hxa.2)
            rw [ek] at h4
            refine lv_tableIn hx hb hd hlo hhi (off := offs.toList[(x1.toInt - lo).toNat]) ?_ (z_to_ok h3) (go t2 _ ⟨Int.le_refl _, Int.le_refl _⟩ (List.mem_append_right _ h4))
            rw [← Array.getElem?_toList]; exact hgo
      · cases h
    · cases h
  · cases h
theorem z_r_lsw (hg : z_Good p l e R s m args below meth c Q OB D DA cl TY PHI sz raw pu T0 H0 env0 nL good) (hx : p.tables.exec = Jvm.exec) (hb : c.code = cc) {dflt : Int} {ps : Array (Int × Int)} {len : Nat} (hd : decode cc pc = .ok (.lookupswitch dflt ps, len)) {L : List (Nat × zS)} (h : z_lsw st pc dflt ps.toList = some L) (hall : ∀ q ∈ L, good q.1 q.2) : good pc st := by
  refine (hg _ _).mpr fun T H locs env ls stk hs => ?_
  unfold z_lsw at h
  split at h
  · rename_i x S hS
    split at h
    · rename_i a t ha ht
      cases hc : (ps.toList.zip (ps.toList.drop 1)).all (fun (a, next) => a.1 < next.1) with
      | false => rw [hc] at h; cases h
      | true =>
        rw [hc] at h
        obtain ⟨vx, k2, rfl, e2, hk2⟩ := z_stk_cons hS hs.2.2.2.1
        obtain ⟨v, e3, x1, rfl, hxa⟩ := z_get_ok hs.2.2.2.2.1 ha
        have q1 : vx = .int x1 := Option.some.inj (e2.symm.trans e3)
        subst q1
        obtain ⟨t2, r, h3, h4, h5⟩ := z_lswL_ok ht ps.toList a L h hxa
        refine lv_lookup hx hb hd hc rfl (z_to_ok h3) ?_
        refine (hg _ _).mp (hall _ h5) T H locs env ls k2 (z_sat_mor hs hk2 (fun q hq => ?_) (fun q hq => absurd hq List.not_mem_nil))
        rw [List.mem_singleton.mp hq]; exact ⟨_, e3, z_vi h4⟩
    · cases h
  · cases h
end ZSWITCH
end
