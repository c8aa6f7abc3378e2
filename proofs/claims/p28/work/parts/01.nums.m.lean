/-! 01.nums, 02.bits, 03.shifts, 04.state, 04c.frozen, 05.sat, 06.pure, 07.pure2, 08.jumps, 09.switch, 10.heap, 11.fields, 12.fields2, 13.arrays, 14.makes, 15.makes2, 16.contracts, 17.ends, 18.entry, 19.returns, 20.calls, 20b.copy, 21.calls2, 22.calls3 -/
section
/-! Ranges of ints, and what each operation makes of them. -/
abbrev zR : Type := Int × Int
def z_in (r : zR) (x : Int32) : Prop := r.1 ≤ x.toInt ∧ x.toInt ≤ r.2
def z_full : zR := (-2147483648, 2147483647)
theorem z_lo (x : Int32) : -2147483648 ≤ x.toInt := by have := x.le_toInt; omega
theorem z_hi (x : Int32) : x.toInt ≤ 2147483647 := by have := x.toInt_lt; omega
theorem z_in_full (x : Int32) : z_in z_full x := ⟨z_lo x, z_hi x⟩
def z_clip (lo hi : Int) : zR := if -2147483648 ≤ lo ∧ hi ≤ 2147483647 then (lo, hi) else z_full
theorem z_bmod {v : Int} (h1 : -2147483648 ≤ v) (h2 : v ≤ 2147483647) : v.bmod (2 ^ 32) = v := by
  apply Int.bmod_eq_of_le <;> omega
theorem z_clip_ok {lo hi v : Int} {x : Int32} (h1 : lo ≤ v) (h2 : v ≤ hi) (hx : x.toInt = v.bmod (2 ^ 32)) : z_in (z_clip lo hi) x := by
  unfold z_clip
  split
  · rename_i h
    rw [z_bmod (by omega) (by omega)] at hx
    exact ⟨by show lo ≤ _; omega, by show _ ≤ hi; omega⟩
  · exact z_in_full x
def z_add (a b : zR) : zR := z_clip (a.1 + b.1) (a.2 + b.2)
theorem z_add_ok {a b : zR} {x y : Int32} (hx : z_in a x) (hy : z_in b y) : z_in (z_add a b) (x + y) :=
  z_clip_ok (v := x.toInt + y.toInt) (by have := hx.1; have := hy.1; omega) (by have := hx.2; have := hy.2; omega) (Int32.toInt_add x y)
def z_sub (a b : zR) : zR := z_clip (a.1 - b.2) (a.2 - b.1)
theorem z_sub_ok {a b : zR} {x y : Int32} (hx : z_in a x) (hy : z_in b y) : z_in (z_sub a b) (x - y) :=
  z_clip_ok (v := x.toInt - y.toInt) (by have := hx.1; have := hy.2; omega) (by have := hx.2; have := hy.1; omega) (Int32.toInt_sub x y)
def z_neg (a : zR) : zR := z_clip (-a.2) (-a.1)
theorem z_neg_ok {a : zR} {x : Int32} (hx : z_in a x) : z_in (z_neg a) (-x) :=
  z_clip_ok (v := -x.toInt) (by have := hx.2; omega) (by have := hx.1; omega) (Int32.toInt_neg x)
def z_min (a b : Int) : Int := if a ≤ b then a else b
def z_max (a b : Int) : Int := if a ≤ b then b else a
theorem z_min_l (a b : Int) : z_min a b ≤ a := by unfold z_min; split <;> omega
theorem z_min_r (a b : Int) : z_min a b ≤ b := by unfold z_min; split <;> omega
theorem z_max_l (a b : Int) : a ≤ z_max a b := by unfold z_max; split <;> omega
theorem z_max_r (a b : Int) : b ≤ z_max a b := by unfold z_max; split <;> omega
def z_mul (a b : zR) : zR := z_clip (z_min (z_min (a.1 * b.1) (a.1 * b.2)) (z_min (a.2 * b.1) (a.2 * b.2))) (z_max (z_max (a.1 * b.1) (a.1 * b.2)) (z_max (a.2 * b.1) (a.2 * b.2)))
theorem z_mul_lin {p q x c : Int} (h1 : p ≤ x) (h2 : x ≤ q) : z_min (p * c) (q * c) ≤ x * c ∧ x * c ≤ z_max (p * c) (q * c) := by
  rcases Int.le_total 0 c with h | h
  · have := Int.mul_le_mul_of_nonneg_right h1 h
    have := Int.mul_le_mul_of_nonneg_right h2 h
    exact ⟨Int.le_trans (z_min_l _ _) (by omega), Int.le_trans (by omega) (z_max_r _ _)⟩
  · have := Int.mul_le_mul_of_nonpos_right h1 h
    have := Int.mul_le_mul_of_nonpos_right h2 h
    exact ⟨Int.le_trans (z_min_r _ _) (by omega), Int.le_trans (by omega) (z_max_l _ _)⟩
theorem z_mul_ok {a b : zR} {x y : Int32} (hx : z_in a x) (hy : z_in b y) : z_in (z_mul a b) (x * y) := by
  have e1 := z_mul_lin (c := y.toInt) hx.1 hx.2
  have e2 := z_mul_lin (c := a.1) hy.1 hy.2
  have e3 := z_mul_lin (c := a.2) hy.1 hy.2
  rw [Int.mul_comm b.1, Int.mul_comm b.2, Int.mul_comm y.toInt] at e2 e3
  have m1 := z_min_l (z_min (a.1 * b.1) (a.1 * b.2)) (z_min (a.2 * b.1) (a.2 * b.2))
  have m2 := z_min_r (z_min (a.1 * b.1) (a.1 * b.2)) (z_min (a.2 * b.1) (a.2 * b.2))
  have m3 := z_max_l (z_max (a.1 * b.1) (a.1 * b.2)) (z_max (a.2 * b.1) (a.2 * b.2))
  have m4 := z_max_r (z_max (a.1 * b.1) (a.1 * b.2)) (z_max (a.2 * b.1) (a.2 * b.2))
  refine z_clip_ok (v := x.toInt * y.toInt) ?_ ?_ (Int32.toInt_mul x y)
  · refine Int.le_trans ?_ e1.1
    unfold z_min at *
    split <;> omega
  · refine Int.le_trans e1.2 ?_
    unfold z_max at *
    split <;> omega
/-- division by a positive constant; else by what is not 0 -/
def z_div (a b : zR) : zR := if b.1 = b.2 ∧ 0 < b.1 then z_clip (a.1.tdiv b.1) (a.2.tdiv b.1) else if 0 ≤ a.1 ∧ 0 < b.1 then (0, z_max 0 a.2) else z_full
theorem z_div_ok {a b : zR} {x y : Int32} (hx : z_in a x) (hy : z_in b y) : z_in (z_div a b) (x / y) := by
  unfold z_div
  split
  · rename_i h
    have hy1 : y.toInt = b.1 := by have := hy.1; have := hy.2; omega
    refine z_clip_ok (v := x.toInt.tdiv y.toInt) ?_ ?_ (Int32.toInt_div x y)
    · rw [hy1]; exact Int.tdiv_le_tdiv h.2 hx.1
    · rw [hy1]; exact Int.tdiv_le_tdiv h.2 hx.2
  · split
    · rename_i h
      have h0 : 0 ≤ x.toInt := by have := hx.1; omega
      have h1 : 0 < y.toInt := by have := hy.1; omega
      have e : (x / y).toInt = x.toInt / y.toInt := by
        rw [Int32.toInt_div, Int.tdiv_eq_ediv_of_nonneg h0]
        have q1 : 0 ≤ x.toInt / y.toInt := Int.ediv_nonneg h0 (by omega)
        have q2 : x.toInt / y.toInt ≤ x.toInt := Int.ediv_le_self _ h0
        exact z_bmod (by omega) (by have := z_hi x; omega)
      have q1 : 0 ≤ x.toInt / y.toInt := Int.ediv_nonneg h0 (by omega)
      have q2 : x.toInt / y.toInt ≤ x.toInt := Int.ediv_le_self _ h0
      exact ⟨by show (0 : Int) ≤ _; omega, by show _ ≤ z_max 0 a.2; have := z_max_r 0 a.2; have := hx.2; omega⟩
    · exact z_in_full _
/-- the rest by what is above 0 -/
def z_rem (a b : zR) : zR := if 0 < b.1 then (if 0 ≤ a.1 then (if a.2 < b.1 then a else (0, z_min (z_max 0 a.2) (b.2 - 1))) else (-(b.2 - 1), if a.2 ≤ 0 then 0 else b.2 - 1)) else z_full
theorem z_rem_int (x y : Int32) (hy : 0 < y.toInt) : (x - x / y * y).toInt = x.toInt.tmod y.toInt := by
  have hd : (x / y).toInt = x.toInt.tdiv y.toInt := by
    rw [Int32.toInt_div]
    have h1 := Int.tdiv_le_tdiv hy (z_lo x)
    have h2 := Int.tdiv_le_tdiv hy (z_hi x)
    have k1 : (2147483647 : Int).tdiv y.toInt ≤ 2147483647 := by
      rw [Int.tdiv_eq_ediv_of_nonneg (by omega)]; exact Int.ediv_le_self _ (by omega)
    have k2 : -2147483648 ≤ (-2147483648 : Int).tdiv y.toInt := by
      have : (-2147483648 : Int).tdiv y.toInt = -((2147483648 : Int).tdiv y.toInt) := Int.neg_tdiv 2147483648 y.toInt
      rw [this, Int.tdiv_eq_ediv_of_nonneg (by omega)]
      have := Int.ediv_le_self y.toInt (a := 2147483648) (by omega)
      omega
    exact z_bmod (by omega) (by omega)
  have hm := Int.tmod_def x.toInt y.toInt
  have hb : -y.toInt < x.toInt.tmod y.toInt ∧ x.toInt.tmod y.toInt < y.toInt := tmod_bounds hy
  have hyh := z_hi y
  rw [Int32.toInt_sub, Int32.toInt_mul, hd, Int.mul_comm (x.toInt.tdiv y.toInt)]
  rw [Int.sub_bmod_bmod, ← hm]
  exact z_bmod (by omega) (by omega)
theorem z_tmod_bounds {a M : Int} (hM : 0 < M) : -M < a.tmod M ∧ a.tmod M < M := tmod_bounds hM
theorem z_rem_ok {a b : zR} {x y : Int32} (hx : z_in a x) (hy : z_in b y) : z_in (z_rem a b) (x - x / y * y) := by
  unfold z_rem
  split
  · rename_i h
    have hy0 : 0 < y.toInt := by have := hy.1; omega
    have e := z_rem_int x y hy0
    obtain ⟨t1, t2⟩ := z_tmod_bounds (a := x.toInt) hy0
    have hb2 := hy.2
    split
    · rename_i h0
      have hx0 : 0 ≤ x.toInt := by have := hx.1; omega
      have n0 : 0 ≤ x.toInt.tmod y.toInt := Int.tmod_nonneg _ hx0
      have n1 : x.toInt.tmod y.toInt ≤ x.toInt := by
        rw [Int.tmod_eq_emod_of_nonneg hx0]
        rw [Int.emod_def]
        have := Int.mul_nonneg (Int.le_of_lt hy0) (Int.ediv_nonneg hx0 (Int.le_of_lt hy0))
        omega
      split
      · rename_i h1
        have : x.toInt.tmod y.toInt = x.toInt := by
          rw [Int.tmod_eq_emod_of_nonneg hx0]
          exact Int.emod_eq_of_lt hx0 (by have := hx.2; have := hy.1; omega)
        exact ⟨by rw [e, this]; exact hx.1, by rw [e, this]; exact hx.2⟩
      · refine ⟨by rw [e]; exact n0, ?_⟩
        rw [e]
        show _ ≤ z_min _ _
        unfold z_min
        have := z_max_r 0 a.2
        have := hx.2
        split <;> omega
    · rename_i h0
      refine ⟨by rw [e]; show -(b.2 - 1) ≤ _; omega, ?_⟩
      rw [e]
      show _ ≤ (if a.2 ≤ 0 then (0 : Int) else b.2 - 1)
      split
      · rename_i h1
        have hx2 := hx.2
        have h3 : x.toInt.tmod y.toInt = -((-x.toInt).tmod y.toInt) := by rw [Int.neg_tmod]; omega
        have : 0 ≤ (-x.toInt).tmod y.toInt := Int.tmod_nonneg _ (by omega)
        omega
      · omega
  · exact z_in_full _
end
section
/-! Bits. -/
theorem z_nat {x : Int32} (h : 0 ≤ x.toInt) : x.toInt = (x.toBitVec.toNat : Int) := by
  have h1 : x.toInt = x.toBitVec.toInt := rfl
  rw [h1] at h ⊢
  rw [BitVec.toInt_eq_toNat_cond] at h ⊢
  have := x.toBitVec.isLt
  split <;> rename_i q
  · rfl
  · rw [if_neg q] at h; omega
theorem z_natlt {x : Int32} (h : 0 ≤ x.toInt) : x.toBitVec.toNat < 2147483648 := by
  have := z_nat h; have := z_hi x; omega
theorem z_ofnat {x : Int32} (h : x.toBitVec.toNat < 2147483648) : x.toInt = (x.toBitVec.toNat : Int) := by
  have h1 : x.toInt = x.toBitVec.toInt := rfl
  rw [h1, BitVec.toInt_eq_toNat_cond, if_pos (by omega)]
theorem z_negnat {x : Int32} : x.toInt < 0 ↔ 2147483648 ≤ x.toBitVec.toNat := by
  have h1 : x.toInt = x.toBitVec.toInt := rfl
  rw [h1, BitVec.toInt_eq_toNat_cond]
  have := x.toBitVec.isLt
  split <;> omega
theorem z_and_nat (x y : Int32) : (x &&& y).toBitVec.toNat = x.toBitVec.toNat &&& y.toBitVec.toNat := by
  rw [Int32.toBitVec_and, BitVec.toNat_and]
theorem z_or_nat (x y : Int32) : (x ||| y).toBitVec.toNat = x.toBitVec.toNat ||| y.toBitVec.toNat := by
  rw [Int32.toBitVec_or, BitVec.toNat_or]
theorem z_xor_nat (x y : Int32) : (x ^^^ y).toBitVec.toNat = x.toBitVec.toNat ^^^ y.toBitVec.toNat := by
  rw [Int32.toBitVec_xor, BitVec.toNat_xor]
def z_and (a b : zR) : zR := if a.1 = a.2 ∧ b.1 = b.2 ∧ 0 ≤ a.1 ∧ 0 ≤ b.1 then (((a.1.toNat &&& b.1.toNat : Nat) : Int), ((a.1.toNat &&& b.1.toNat : Nat) : Int)) else if 0 ≤ a.1 then (0, if 0 ≤ b.1 then z_min a.2 b.2 else a.2) else if 0 ≤ b.1 then (0, b.2) else if a.1 = -1 ∧ a.2 = -1 then b else if b.1 = -1 ∧ b.2 = -1 then a else z_full
theorem z_m1 {x : Int32} (h : x.toInt = -1) : x = -1 := Int32.toInt_inj.mp (by rw [h]; rfl)
theorem z_and_ok {a b : zR} {x y : Int32} (hx : z_in a x) (hy : z_in b y) : z_in (z_and a b) (x &&& y) := by
  have l1 : x.toBitVec.toNat &&& y.toBitVec.toNat ≤ x.toBitVec.toNat := Nat.and_le_left
  have l2 : x.toBitVec.toNat &&& y.toBitVec.toNat ≤ y.toBitVec.toNat := Nat.and_le_right
  have e := z_and_nat x y
  obtain ⟨x1, x2⟩ := hx
  obtain ⟨y1, y2⟩ := hy
  unfold z_and
  split
  · rename_i h
    have nx := z_nat (x := x) (by omega)
    have ny := z_nat (x := y) (by omega)
    have hx3 : a.1.toNat = x.toBitVec.toNat := by omega
    have hy3 : b.1.toNat = y.toBitVec.toNat := by omega
    have := z_natlt (x := x) (by omega)
    have q := z_ofnat (x := x &&& y) (by omega)
    rw [hx3, hy3, ← e]
    exact ⟨by rw [q]; exact Int.le_refl _, by rw [q]; exact Int.le_refl _⟩
  · split
    · have nx := z_nat (x := x) (by omega)
      have := z_natlt (x := x) (by omega)
      have q := z_ofnat (x := x &&& y) (by omega)
      refine ⟨by show (0 : Int) ≤ _; omega, ?_⟩
      show _ ≤ (if 0 ≤ b.1 then z_min a.2 b.2 else a.2)
      split
      · have ny := z_nat (x := y) (by omega)
        unfold z_min
        split <;> omega
      · omega
    · split
      · have ny := z_nat (x := y) (by omega)
        have := z_natlt (x := y) (by omega)
        have q := z_ofnat (x := x &&& y) (by omega)
        exact ⟨by show (0 : Int) ≤ _; omega, by show _ ≤ b.2; omega⟩
      · split
        · rename_i h
          have := z_m1 (x := x) (by omega)
          subst this
          have : (-1 : Int32) &&& y = y := by apply Int32.toBitVec_inj.mp; rw [Int32.toBitVec_and]; exact BitVec.allOnes_and
          rw [this]; exact ⟨y1, y2⟩
        · split
          · rename_i h
            have := z_m1 (x := y) (by omega)
            subst this
            have : x &&& (-1 : Int32) = x := by apply Int32.toBitVec_inj.mp; rw [Int32.toBitVec_and]; exact BitVec.and_allOnes
            rw [this]; exact ⟨x1, x2⟩
          · exact z_in_full _
/-- the least 2^k - 1 that is no less -/
def z_upF : Nat → Nat → Nat → Nat
  | 0, _, _ => 2147483648
  | f + 1, p, n => if n < p then p else z_upF f (p + p) n
def z_up (n : Nat) : Nat := z_upF 32 1 n
theorem z_upF_pow : ∀ f k n : Nat, k + f = 32 → ∃ j, z_upF f (2 ^ k) n = 2 ^ j ∧ (n < 2 ^ j ∨ j = 31)
  | 0, k, n, h => ⟨31, rfl, Or.inr rfl⟩
  | f + 1, k, n, h => by
    unfold z_upF
    split
    · exact ⟨k, rfl, Or.inl (by assumption)⟩
    · have := z_upF_pow f (k + 1) n (by omega)
      rwa [Nat.pow_succ, Nat.mul_two] at this
theorem z_up_pow {n : Nat} (h : n < 2147483648) : ∃ j, z_up n = 2 ^ j ∧ n < 2 ^ j := by
  obtain ⟨j, e, q⟩ := z_upF_pow 32 0 n rfl
  refine ⟨j, e, ?_⟩
  rcases q with q | q
  · exact q
  · subst q; exact h
theorem z_up_mono {n m : Nat} (h : n < 2147483648) (hm : m ≤ n) : m < z_up n := by
  obtain ⟨j, e, q⟩ := z_up_pow h
  omega
def z_or (a b : zR) : zR := if 0 ≤ a.1 ∧ 0 ≤ b.1 ∧ a.2 < 2147483648 ∧ b.2 < 2147483648 then (z_max a.1 b.1, ((z_up (z_max a.2 b.2).toNat : Nat) : Int) - 1) else if b.1 = 0 ∧ b.2 = 0 then a else if a.1 = 0 ∧ a.2 = 0 then b else z_full
theorem z_up_top (n : Nat) : z_up n ≤ 2147483648 := by
  obtain ⟨j, e, q⟩ := z_upF_pow 32 0 n rfl
  by_cases h : n < 2147483648
  · have key : ∀ f k : Nat, k + f = 32 → z_upF f (2 ^ k) n ≤ 2147483648 := by
      intro f
      induction f with
      | zero => intro k hk; exact Nat.le_refl _
      | succ f ih =>
        intro k hk
        unfold z_upF
        split
        · have : 2 ^ k ≤ 2 ^ 31 := Nat.pow_le_pow_right (by omega) (by omega)
          omega
        · have := ih (k + 1) (by omega)
          rwa [Nat.pow_succ, Nat.mul_two] at this
    exact key 32 0 rfl
  · have key : ∀ f k : Nat, k + f = 32 → z_upF f (2 ^ k) n ≤ 2147483648 := by
      intro f
      induction f with
      | zero => intro k hk; exact Nat.le_refl _
      | succ f ih =>
        intro k hk
        unfold z_upF
        split
        · have : 2 ^ k ≤ 2 ^ 31 := Nat.pow_le_pow_right (by omega) (by omega)
          omega
        · have := ih (k + 1) (by omega)
          rwa [Nat.pow_succ, Nat.mul_two] at this
    exact key 32 0 rfl
theorem z_int0 {x : Int32} (h : x.toInt = 0) : x = 0 := Int32.toInt_inj.mp (by rw [h]; rfl)
theorem z_or_ok {a b : zR} {x y : Int32} (hx : z_in a x) (hy : z_in b y) : z_in (z_or a b) (x ||| y) := by
  have e := z_or_nat x y
  obtain ⟨x1, x2⟩ := hx
  obtain ⟨y1, y2⟩ := hy
  unfold z_or
  split
  · rename_i h
    have nx := z_nat (x := x) (by omega)
    have ny := z_nat (x := y) (by omega)
    have m1 := z_max_l a.2 b.2
    have m2 := z_max_r a.2 b.2
    have hm : (z_max a.2 b.2).toNat < 2147483648 := by
      have : z_max a.2 b.2 < 2147483648 := by unfold z_max; split <;> omega
      omega
    obtain ⟨j, ej, q⟩ := z_up_pow hm
    have t := z_up_top (z_max a.2 b.2).toNat
    have hlt : x.toBitVec.toNat ||| y.toBitVec.toNat < 2 ^ j := Nat.or_lt_two_pow (by omega) (by omega)
    have k1 : x.toBitVec.toNat ≤ x.toBitVec.toNat ||| y.toBitVec.toNat := Nat.left_le_or
    have k2 : y.toBitVec.toNat ≤ x.toBitVec.toNat ||| y.toBitVec.toNat := Nat.right_le_or
    have w := z_ofnat (x := x ||| y) (by omega)
    refine ⟨?_, by show _ ≤ ((z_up (z_max a.2 b.2).toNat : Nat) : Int) - 1; omega⟩
    show z_max a.1 b.1 ≤ _
    unfold z_max
    split <;> omega
  · split
    · have := z_int0 (x := y) (by omega)
      subst this
      have : x ||| (0 : Int32) = x := by apply Int32.toBitVec_inj.mp; rw [Int32.toBitVec_or]; exact BitVec.or_zero
      rw [this]; exact ⟨x1, x2⟩
    · split
      · have := z_int0 (x := x) (by omega)
        subst this
        have : (0 : Int32) ||| y = y := by apply Int32.toBitVec_inj.mp; rw [Int32.toBitVec_or]; exact BitVec.zero_or
        rw [this]; exact ⟨y1, y2⟩
      · exact z_in_full _
def z_xor (a b : zR) : zR := if 0 ≤ a.1 ∧ 0 ≤ b.1 ∧ a.2 < 2147483648 ∧ b.2 < 2147483648 then (0, ((z_up (z_max a.2 b.2).toNat : Nat) : Int) - 1) else if b.1 = -1 ∧ b.2 = -1 then (-1 - a.2, -1 - a.1) else if 0 ≤ a.1 ∧ b.2 < 0 then (-2147483648, -1) else if a.2 < 0 ∧ 0 ≤ b.1 then (-2147483648, -1) else if a.2 < 0 ∧ b.2 < 0 then (0, 2147483647) else z_full
theorem z_msb (x : Int32) : x.toInt < 0 ↔ x.toBitVec.msb = true := by
  have h1 : x.toInt = x.toBitVec.toInt := rfl
  rw [h1, BitVec.msb_eq_toInt]; simp
theorem z_xor_ok {a b : zR} {x y : Int32} (hx : z_in a x) (hy : z_in b y) : z_in (z_xor a b) (x ^^^ y) := by
  have e := z_xor_nat x y
  obtain ⟨x1, x2⟩ := hx
  obtain ⟨y1, y2⟩ := hy
  have hz1 := z_lo (x ^^^ y)
  have hz2 := z_hi (x ^^^ y)
  have ms : (x ^^^ y).toInt < 0 ↔ (x.toInt < 0 ∧ ¬ y.toInt < 0) ∨ (¬ x.toInt < 0 ∧ y.toInt < 0) := by
    rw [z_msb, z_msb x, z_msb y, Int32.toBitVec_xor, BitVec.msb_xor]
    cases x.toBitVec.msb <;> cases y.toBitVec.msb <;> simp
  unfold z_xor
  split
  · rename_i h
    have nx := z_nat (x := x) (by omega)
    have ny := z_nat (x := y) (by omega)
    have m1 := z_max_l a.2 b.2
    have m2 := z_max_r a.2 b.2
    have hm : (z_max a.2 b.2).toNat < 2147483648 := by
      have : z_max a.2 b.2 < 2147483648 := by unfold z_max; split <;> omega
      omega
    obtain ⟨j, ej, q⟩ := z_up_pow hm
    have t := z_up_top (z_max a.2 b.2).toNat
    have hlt : x.toBitVec.toNat ^^^ y.toBitVec.toNat < 2 ^ j := Nat.xor_lt_two_pow (by omega) (by omega)
    have w := z_ofnat (x := x ^^^ y) (by omega)
    exact ⟨by show (0 : Int) ≤ _; omega, by show _ ≤ ((z_up (z_max a.2 b.2).toNat : Nat) : Int) - 1; omega⟩
  · split
    · have := z_m1 (x := y) (by omega)
      subst this
      have k : (x ^^^ (-1 : Int32)).toInt = -1 - x.toInt := by
        have h2 : (x ^^^ (-1 : Int32)) = ~~~x := by apply Int32.toBitVec_inj.mp; rw [Int32.toBitVec_xor, Int32.toBitVec_not]; exact BitVec.xor_allOnes
        rw [h2]
        have := Int32.toInt_not x
        have hb := z_bmod (v := -x.toInt - 1) (by have := z_hi x; omega) (by have := z_lo x; omega)
        omega
      exact ⟨by rw [k]; show -1 - a.2 ≤ _; omega, by rw [k]; show _ ≤ -1 - a.1; omega⟩
    · split
      · exact ⟨hz1, by show _ ≤ (-1 : Int); have := ms.mpr (Or.inr ⟨by omega, by omega⟩); omega⟩
      · split
        · exact ⟨hz1, by show _ ≤ (-1 : Int); have := ms.mpr (Or.inl ⟨by omega, by omega⟩); omega⟩
        · split
          · refine ⟨?_, hz2⟩
            show (0 : Int) ≤ _
            rcases Int.lt_or_le (x ^^^ y).toInt 0 with q | q
            · rcases ms.mp q with ⟨_, w⟩ | ⟨w, _⟩ <;> omega
            · exact q
          · exact z_in_full _
end
section
/-! Shifts. -/
theorem z_sm : ∀ k, k < 32 → ((nI k).toBitVec.smod 32).toNat = k := by decide +kernel
theorem z_sm31 : ∀ k, k < 32 → ((nI k &&& 31).toBitVec.smod 32).toNat = k := by decide +kernel
theorem z_um31 : ∀ k, k < 32 → (((nI k).toUInt32 &&& Int32.toUInt32 31).toBitVec % 32).toNat = k := by decide +kernel
theorem z_isI {x : Int32} (h : 0 ≤ x.toInt) : x = nI x.toInt.toNat := by
  apply Int32.toInt_inj.mp
  have := z_hi x
  rw [nI_toInt (by omega)]
  omega
/-- how far it is shifted -/
theorem z_amt (y : Int32) : ∃ k, k < 32 ∧ ((y &&& 31).toBitVec.smod 32).toNat = k ∧ (0 ≤ y.toInt → y.toInt < 32 → y.toInt = k) := by
  by_cases h : 0 ≤ y.toInt ∧ y.toInt < 32
  · have e := z_isI h.1
    refine ⟨y.toInt.toNat, by omega, ?_, fun _ _ => by omega⟩
    conv => lhs; rw [e]
    exact z_sm31 _ (by omega)
  · obtain ⟨j, hj, e⟩ := pk_andE y (m := 31) 5 rfl
    exact ⟨j, hj, by rw [e]; exact z_sm j hj, fun h1 h2 => absurd ⟨h1, h2⟩ h⟩
def z_shl (a b : zR) : zR := if 0 ≤ a.1 ∧ 0 ≤ b.1 ∧ b.2 < 31 ∧ a.2 * ((2 ^ b.2.toNat : Nat) : Int) ≤ 2147483647 then (a.1 * ((2 ^ b.1.toNat : Nat) : Int), a.2 * ((2 ^ b.2.toNat : Nat) : Int)) else if a.1 = 0 ∧ a.2 = 0 then (0, 0) else z_full
theorem z_shl_ok {a b : zR} {x y : Int32} (hx : z_in a x) (hy : z_in b y) : z_in (z_shl a b) (x <<< (y &&& 31)) := by
  obtain ⟨k, hk, ek, hk2⟩ := z_amt y
  have e := pk_shl x (y &&& 31) k ek
  obtain ⟨x1, x2⟩ := hx
  obtain ⟨y1, y2⟩ := hy
  unfold z_shl
  split
  · rename_i h
    obtain ⟨h1, h2, h3, h4⟩ := h
    have hyk := hk2 (by omega) (by omega)
    have nx := z_nat (x := x) (by omega)
    have p1 : 2 ^ k ≤ 2 ^ b.2.toNat := Nat.pow_le_pow_right (by omega) (by omega)
    have p2 : 2 ^ b.1.toNat ≤ 2 ^ k := Nat.pow_le_pow_right (by omega) (by omega)
    have m1 : (x.toBitVec.toNat : Int) * ((2 ^ k : Nat) : Int) ≤ a.2 * ((2 ^ b.2.toNat : Nat) : Int) :=
      Int.mul_le_mul (by omega) (by exact_mod_cast p1) (Int.natCast_nonneg _) (by omega)
    have m2 : a.1 * ((2 ^ b.1.toNat : Nat) : Int) ≤ (x.toBitVec.toNat : Int) * ((2 ^ k : Nat) : Int) :=
      Int.mul_le_mul (by omega) (by exact_mod_cast p2) (Int.natCast_nonneg _) (by omega)
    have m3 : ((x.toBitVec.toNat * 2 ^ k : Nat) : Int) = (x.toBitVec.toNat : Int) * ((2 ^ k : Nat) : Int) := Int.natCast_mul _ _
    have m4 : x.toBitVec.toNat * 2 ^ k < 2147483648 := by omega
    rw [Nat.mod_eq_of_lt (by omega)] at e
    have w := z_ofnat (x := x <<< (y &&& 31)) (by omega)
    exact ⟨by rw [w, e, m3]; exact m2, by rw [w, e, m3]; exact m1⟩
  · split
    · have := z_int0 (x := x) (by omega)
      subst this
      have z0 : (0 : Int32).toBitVec.toNat = 0 := rfl
      rw [z0, Nat.zero_mul, Nat.zero_mod] at e
      have w := z_ofnat (x := (0 : Int32) <<< (y &&& 31)) (by omega)
      exact ⟨by rw [w, e]; exact Int.le_refl _, by rw [w, e]; exact Int.le_refl _⟩
    · exact z_in_full _
def z_shr (a b : zR) : zR := if 0 ≤ b.1 ∧ b.2 < 32 then (if 0 ≤ a.1 then a.1 / ((2 ^ b.2.toNat : Nat) : Int) else a.1 / ((2 ^ b.1.toNat : Nat) : Int), if 0 ≤ a.2 then a.2 / ((2 ^ b.1.toNat : Nat) : Int) else a.2 / ((2 ^ b.2.toNat : Nat) : Int)) else (if 0 ≤ a.1 then 0 else a.1, if 0 ≤ a.2 then a.2 else -1)
theorem z_ediv_anti {v p q : Int} (hv : 0 ≤ v) (hp : 0 < p) (h : p ≤ q) : v / q ≤ v / p := by
  rw [Int.le_ediv_iff_mul_le hp]
  have h1 : v / q * p ≤ v / q * q := Int.mul_le_mul_of_nonneg_left h (Int.ediv_nonneg hv (by omega))
  have h2 : v / q * q ≤ v := Int.ediv_mul_le _ (by omega)
  omega
theorem z_ediv_mono {v p q : Int} (hv : v < 0) (hp : 0 < p) (h : p ≤ q) : v / p ≤ v / q := by
  rw [Int.le_ediv_iff_mul_le (by omega)]
  have h0 : v / p < 0 := Int.ediv_neg_of_neg_of_pos hv hp
  have h1 : v / p * q ≤ v / p * p := Int.mul_le_mul_of_nonpos_left (by omega) h
  have h2 : v / p * p ≤ v := Int.ediv_mul_le _ (by omega)
  omega
theorem z_shr_val {x y : Int32} {k : Nat} (ek : ((y &&& 31).toBitVec.smod 32).toNat = k) : (x >>> (y &&& 31)).toInt = x.toInt / ((2 ^ k : Nat) : Int) := by
  rw [pk_shr x (y &&& 31) k ek, Int.shiftRight_eq_div_pow]
theorem z_shr_ok {a b : zR} {x y : Int32} (hx : z_in a x) (hy : z_in b y) : z_in (z_shr a b) (x >>> (y &&& 31)) := by
  obtain ⟨k, hk, ek, hk2⟩ := z_amt y
  have e := z_shr_val (x := x) ek
  obtain ⟨x1, x2⟩ := hx
  obtain ⟨y1, y2⟩ := hy
  have pk : (0 : Int) < ((2 ^ k : Nat) : Int) := by exact_mod_cast Nat.two_pow_pos k
  unfold z_shr
  split
  · rename_i h
    have hyk := hk2 (by omega) (by omega)
    have p1 : ((2 ^ k : Nat) : Int) ≤ ((2 ^ b.2.toNat : Nat) : Int) := by exact_mod_cast (Nat.pow_le_pow_right (by omega) (by omega) : 2 ^ k ≤ 2 ^ b.2.toNat)
    have p2 : ((2 ^ b.1.toNat : Nat) : Int) ≤ ((2 ^ k : Nat) : Int) := by exact_mod_cast (Nat.pow_le_pow_right (by omega) (by omega) : 2 ^ b.1.toNat ≤ 2 ^ k)
    have q0 : (0 : Int) < ((2 ^ b.1.toNat : Nat) : Int) := by exact_mod_cast Nat.two_pow_pos _
    refine ⟨?_, ?_⟩
    · rw [e]
      show (if 0 ≤ a.1 then _ else _) ≤ _
      split
      · exact Int.le_trans (z_ediv_anti (by omega) pk p1) (Int.ediv_le_ediv pk x1)
      · exact Int.le_trans (z_ediv_mono (by omega) q0 p2) (Int.ediv_le_ediv pk x1)
    · rw [e]
      show _ ≤ (if 0 ≤ a.2 then _ else _)
      split
      · exact Int.le_trans (Int.ediv_le_ediv pk x2) (z_ediv_anti (by omega) q0 p2)
      · exact Int.le_trans (Int.ediv_le_ediv pk x2) (z_ediv_mono (by omega) pk p1)
  · refine ⟨?_, ?_⟩
    · rw [e]
      show (if 0 ≤ a.1 then (0 : Int) else a.1) ≤ _
      split
      · exact Int.ediv_nonneg (by omega) (by omega)
      · rcases Int.lt_or_le x.toInt 0 with q | q
        · have := z_ediv_mono (v := x.toInt) (p := 1) (q := ((2 ^ k : Nat) : Int)) q (by omega) (by omega)
          rw [Int.ediv_one] at this; omega
        · have := Int.ediv_nonneg q (Int.le_of_lt pk); omega
    · rw [e]
      show _ ≤ (if 0 ≤ a.2 then a.2 else (-1 : Int))
      split
      · rcases Int.lt_or_le x.toInt 0 with q | q
        · have := Int.ediv_neg_of_neg_of_pos q pk; omega
        · have := Int.ediv_le_self ((2 ^ k : Nat) : Int) q; omega
      · have := Int.ediv_neg_of_neg_of_pos (show x.toInt < 0 by omega) pk; omega
def z_ushr (a b : zR) : zR := if 0 ≤ a.1 then z_shr a b else if b.1 = b.2 ∧ 0 < b.1 ∧ b.1 < 32 then (0, ((4294967295 / 2 ^ b.1.toNat : Nat) : Int)) else z_full
theorem z_ushr_ok {a b : zR} {x y : Int32} (hx : z_in a x) (hy : z_in b y) : z_in (z_ushr a b) ((x.toUInt32 >>> (y.toUInt32 &&& Int32.toUInt32 31)).toInt32) := by
  have amt : ∀ k : Nat, k < 32 → ((y &&& 31).toBitVec.smod 32).toNat = k → ((y.toUInt32 &&& Int32.toUInt32 31).toBitVec % 32).toNat = k := by
    intro k hk h
    have h1 : (y.toUInt32 &&& Int32.toUInt32 31).toBitVec = (y &&& 31).toBitVec := rfl
    rw [h1]
    obtain ⟨j, hj, e⟩ := pk_andE y (m := 31) 5 rfl
    rw [e] at h ⊢
    rw [z_sm j hj] at h
    subst h
    have : ∀ k, k < 32 → ((nI k).toBitVec % 32).toNat = k := by decide +kernel
    exact this j hj
  obtain ⟨k, hk, ek, hk2⟩ := z_amt y
  have e := pk_ushr x y k (amt k hk ek)
  unfold z_ushr
  split
  · rename_i h
    have h0 : 0 ≤ x.toInt := by have := hx.1; omega
    have w := z_shr_ok hx hy
    have nx := z_nat h0
    have lx := z_natlt h0
    have dl : x.toBitVec.toNat / 2 ^ k ≤ x.toBitVec.toNat := Nat.div_le_self _ _
    have q := z_ofnat (x := (x.toUInt32 >>> (y.toUInt32 &&& Int32.toUInt32 31)).toInt32) (by rw [e]; omega)
    have same : (x >>> (y &&& 31)) = (x.toUInt32 >>> (y.toUInt32 &&& Int32.toUInt32 31)).toInt32 := by
      apply Int32.toInt_inj.mp
      rw [z_shr_val ek, q, e, nx]
      exact (Int.natCast_ediv _ _).symm
    rw [← same]; exact w
  · split
    · rename_i h
      obtain ⟨h1, h2, h3⟩ := h
      obtain ⟨y1, y2⟩ := hy
      have hyk := hk2 (by omega) (by omega)
      have kk : b.1.toNat = k := by omega
      have xl := x.toBitVec.isLt
      have p : x.toBitVec.toNat / 2 ^ k ≤ 4294967295 / 2 ^ k := Nat.div_le_div_right (by omega)
      have p2 : 4294967295 / 2 ^ k ≤ 4294967295 / 2 ^ 1 := Nat.div_le_div_left (Nat.pow_le_pow_right (by omega) (by omega)) (by omega)
      have q := z_ofnat (x := (x.toUInt32 >>> (y.toUInt32 &&& Int32.toUInt32 31)).toInt32) (by rw [e]; omega)
      rw [kk]
      exact ⟨by rw [q]; exact Int.natCast_nonneg _, by rw [q, e]; exact Int.ofNat_le.mpr p⟩
    · exact z_in_full _
def z_i2b (a : zR) : zR := if -128 ≤ a.1 ∧ a.2 < 128 then a else (-128, 127)
theorem z_i2b_ok {a : zR} {x : Int32} (hx : z_in a x) : z_in (z_i2b a) (x.toInt8.toInt32) := by
  have e : (x.toInt8.toInt32).toInt = x.toInt.bmod (2 ^ 8) := by rw [Int8.toInt_toInt32, Int32.toInt_toInt8]
  unfold z_i2b
  split
  · rename_i h
    have : x.toInt.bmod (2 ^ 8) = x.toInt := by
      have := hx.1; have := hx.2
      apply Int.bmod_eq_of_le <;> omega
    exact ⟨by rw [e, this]; exact hx.1, by rw [e, this]; exact hx.2⟩
  · have h1 := Int.le_bmod (x := x.toInt) (m := 2 ^ 8) (by decide)
    have h2 := Int.bmod_lt (x := x.toInt) (m := 2 ^ 8) (by decide)
    exact ⟨by rw [e]; show (-128 : Int) ≤ _; omega, by rw [e]; show _ ≤ (127 : Int); omega⟩
def z_i2c (a : zR) : zR := if 0 ≤ a.1 ∧ a.2 ≤ 65535 then a else (0, 65535)
theorem z_i2c_ok {a : zR} {x : Int32} (hx : z_in a x) : z_in (z_i2c a) ((x.toUInt32 % 65536).toInt32) := by
  have e : ((x.toUInt32 % 65536).toInt32).toBitVec.toNat = x.toBitVec.toNat % 65536 := by
    show (x.toUInt32 % 65536).toNat = _
    rw [UInt32.toNat_mod]
    rfl
  have hl := Nat.mod_lt x.toBitVec.toNat (show 0 < 65536 by decide)
  have q := z_ofnat (x := (x.toUInt32 % 65536).toInt32) (by rw [e]; omega)
  rw [e] at q
  unfold z_i2c
  split
  · rename_i h
    have h0 : 0 ≤ x.toInt := by have := hx.1; omega
    have nx := z_nat h0
    have h1 := hx.1
    have h2 := hx.2
    have : x.toBitVec.toNat % 65536 = x.toBitVec.toNat := Nat.mod_eq_of_lt (by omega)
    rw [this] at q
    exact ⟨by rw [q]; omega, by rw [q]; omega⟩
  · exact ⟨by rw [q]; show (0 : Int) ≤ _; omega, by rw [q]; show _ ≤ (65535 : Int); omega⟩
end
section
/-! Abstract values, types of cells, abstract states, and what they say of the machine. -/
abbrev zV : Type := zR ⊕ (Nat ⊕ Nat)
abbrev zTp : Type := Nat → Option Nat
/-- an int in a range; a reference to a cell of a type; a known address (0: any long) -/
def z_v (OB : Nat → Nat) (T : zTp) (c : zV) (v : Value) : Prop := match c with
  | .inl r => ∃ x : Int32, v = .int x ∧ z_in r x
  | .inr (.inl t) => ∃ a : Nat, v = .ref a ∧ T a = some t
  | .inr (.inr 0) => ∃ x : Int64, v = .long x
  | .inr (.inr (k + 1)) => v = .ref (OB k)
def z_ile (a b : Int) : Bool := decide (a ≤ b)
theorem z_ile_ok {a b : Int} (h : z_ile a b = true) : a ≤ b := of_decide_eq_true h
theorem z_beq {a b : Nat} (h : Nat.beq a b = true) : a = b := Nat.eq_of_beq_eq_true h
def z_le (c d : zV) : Bool := match c, d with
  | .inl r, .inl q => z_ile q.1 r.1 && z_ile r.2 q.2
  | .inr (.inl t), .inr (.inl u) => Nat.beq t u
  | .inr (.inr k), .inr (.inr j) => Nat.beq k j
  | _, _ => false
theorem z_in_le {r q : zR} {x : Int32} (h1 : q.1 ≤ r.1) (h2 : r.2 ≤ q.2) (h : z_in r x) : z_in q x := ⟨Int.le_trans h1 h.1, Int.le_trans h.2 h2⟩
theorem z_le_ok {OB : Nat → Nat} {T : zTp} {c d : zV} {v : Value} (h : z_le c d = true) (hv : z_v OB T c v) : z_v OB T d v := by
  rcases c with r | t | k <;> rcases d with q | u | j <;> simp only [z_le, Bool.and_eq_true, Bool.false_eq_true] at h
  · obtain ⟨x, e, hx⟩ := hv
    exact ⟨x, e, z_in_le (z_ile_ok h.1) (z_ile_ok h.2) hx⟩
  · rw [← z_beq h]; exact hv
  · rw [← z_beq h]; exact hv
/-- an object: the place of its class, its fields; an array: the kind of its entries, its least and its greatest length, what stands in which places -/
abbrev zTy : Type := (Nat × List zV) ⊕ (Nat × (Nat × Nat) × List ((Nat × Nat) × zV))
def z_cell (OB : Nat → Nat) (D : va_G) (DA : Nat → ClassId) (cl : List vw_C) (T : zTp) (H : Heap) (a : Nat) (ty : zTy) : Prop := match ty with
  | .inl o => ∃ r, cl[o.1]? = some r ∧ o.2.length = r.2.2 ∧ ∃ V : Nat → Value, t_OB a (D.1 o.1) r.2.2 (D.2 o.1) H V ∧ ∀ k c, o.2[k]? = some c → z_v OB T c (V k)
  | .inr q => ∃ (n : Nat) (f : Nat → Value), H[a]? = some (arrV (DA q.1) n f) ∧ q.2.1.1 ≤ n ∧ n ≤ q.2.1.2 ∧ n < 2147483648 ∧ ∀ g ∈ q.2.2, ∀ j, j < n → g.1.1 ≤ j → j ≤ g.1.2 → z_v OB T g.2 (f j)
/-- a slot of a cell -/
def z_sl (H : Heap) (a k : Nat) (w : Value) : Prop := ∃ cell : Cell, H[a]? = some cell ∧ cell.vm = .none ∧ cell.slots[k]? = some w
abbrev zS : Type := List (Nat × Nat) × List Nat × Nat × List (Nat × zV) × List (Nat × Nat × Nat × Nat) × List (Nat × Nat × Nat) × List (Nat × Nat × Int) × List (Nat × Nat) × (Nat × Nat) × Nat
abbrev z_L (st : zS) := st.1
abbrev z_S (st : zS) := st.2.1
abbrev z_n (st : zS) := st.2.2.1
abbrev z_V (st : zS) := st.2.2.2.1
abbrev z_F (st : zS) := st.2.2.2.2.1
abbrev z_E (st : zS) := st.2.2.2.2.2.1
abbrev z_R (st : zS) := st.2.2.2.2.2.2.1
abbrev z_X (st : zS) := st.2.2.2.2.2.2.2.1
abbrev z_C (st : zS) := st.2.2.2.2.2.2.2.2.1
abbrev z_ph (st : zS) := st.2.2.2.2.2.2.2.2.2
def z_ls (nL : Nat) (ls : Array Slot) (env : List Value) (L : List (Nat × Nat)) : Prop := ∃ lv, lv_has ls nL lv ∧ (∀ q ∈ lv, q.2.category = 1) ∧ ∀ q ∈ L, ∃ v, env[q.2]? = some v ∧ (q.1, v) ∈ lv
def z_stk (env : List Value) : List Nat → List Value → Prop
  | [], k => k = []
  | i :: S, k => ∃ v k', k = v :: k' ∧ env[i]? = some v ∧ z_stk env S k'
def z_fv (OB : Nat → Nat) (T : zTp) (env : List Value) (V : List (Nat × zV)) : Prop := ∀ q ∈ V, ∃ v, env[q.1]? = some v ∧ z_v OB T q.2 v
def z_ff (D : va_G) (cl : List vw_C) (H : Heap) (env : List Value) (F : List (Nat × Nat × Nat × Nat)) : Prop := ∀ q ∈ F, ∃ a w r, env[q.1]? = some (.ref a) ∧ env[q.2.2.2]? = some w ∧ cl[q.2.1]? = some r ∧ q.2.2.1 < r.2.2 ∧ z_sl H a (D.2 q.2.1 q.2.2.1) w
def z_fe (H : Heap) (env : List Value) (E : List (Nat × Nat × Nat)) : Prop := ∀ q ∈ E, ∃ a x w, env[q.1]? = some (.ref a) ∧ env[q.2.1]? = some (.int x) ∧ 0 ≤ x.toInt ∧ env[q.2.2]? = some w ∧ z_sl H a x.toInt.toNat w
def z_fr (env : List Value) (R : List (Nat × Nat × Int)) : Prop := ∀ q ∈ R, ∃ x y, env[q.1]? = some (.int y) ∧ env[q.2.1]? = some (.int x) ∧ x.toInt + q.2.2 ≤ y.toInt
def z_fx (D : va_G) (cl : List vw_C) (T : zTp) (sz : Nat) (n0 : Nat) (raw : Option Nat) (H : Heap) (env : List Value) : List (Nat × Nat) → Prop
  | [] => True
  | q :: X => (∃ a, env[q.1]? = some (.ref a) ∧ T a = none ∧ (sz ≤ a ∧ (n0 ≤ a ∨ raw = some a)) ∧ (∃ r V, cl[q.2]? = some r ∧ t_OB a (D.1 q.2) r.2.2 (D.2 q.2) H V) ∧ ∀ p ∈ X, env[p.1]? ≠ some (.ref a)) ∧ z_fx D cl T sz n0 raw H env X
theorem z_app {env w : List Value} {i : Nat} {v : Value} (h : env[i]? = some v) : (env ++ w)[i]? = some v := by
  rw [List.getElem?_append_left (List.getElem?_eq_some_iff.mp h).1]; exact h
theorem z_ls_app {nL : Nat} {ls : Array Slot} {env w : List Value} {L : List (Nat × Nat)} (h : z_ls nL ls env L) : z_ls nL ls (env ++ w) L := by
  obtain ⟨lv, h1, h2, h3⟩ := h
  exact ⟨lv, h1, h2, fun q hq => by obtain ⟨v, e, m⟩ := h3 q hq; exact ⟨v, z_app e, m⟩⟩
theorem z_stk_app {env w : List Value} : ∀ {S : List Nat} {k : List Value}, z_stk env S k → z_stk (env ++ w) S k
  | [], _, h => h
  | _ :: _, _, ⟨v, k', e, h1, h2⟩ => ⟨v, k', e, z_app h1, z_stk_app h2⟩
theorem z_fv_app {OB : Nat → Nat} {T : zTp} {env w : List Value} {V : List (Nat × zV)} (h : z_fv OB T env V) : z_fv OB T (env ++ w) V := fun q hq => by
  obtain ⟨v, e, m⟩ := h q hq; exact ⟨v, z_app e, m⟩
theorem z_ff_app {D : va_G} {cl : List vw_C} {H : Heap} {env w : List Value} {F : List (Nat × Nat × Nat × Nat)} (h : z_ff D cl H env F) : z_ff D cl H (env ++ w) F := fun q hq => by
  obtain ⟨a, v, r, e1, e2, e3⟩ := h q hq; exact ⟨a, v, r, z_app e1, z_app e2, e3⟩
theorem z_fe_app {H : Heap} {env w : List Value} {E : List (Nat × Nat × Nat)} (h : z_fe H env E) : z_fe H (env ++ w) E := fun q hq => by
  obtain ⟨a, x, v, e1, e2, e3, e4, e5⟩ := h q hq; exact ⟨a, x, v, z_app e1, z_app e2, e3, z_app e4, e5⟩
theorem z_fr_app {env w : List Value} {R : List (Nat × Nat × Int)} (h : z_fr env R) : z_fr (env ++ w) R := fun q hq => by
  obtain ⟨x, y, e1, e2, e3⟩ := h q hq; exact ⟨x, y, z_app e1, z_app e2, e3⟩
theorem z_fx_in {D : va_G} {cl : List vw_C} {T : zTp} {sz n0 : Nat} {raw : Option Nat} {H : Heap} {env : List Value} : ∀ {X : List (Nat × Nat)}, z_fx D cl T sz n0 raw H env X → ∀ p ∈ X, ∃ a, env[p.1]? = some (.ref a) ∧ T a = none ∧ (sz ≤ a ∧ (n0 ≤ a ∨ raw = some a)) ∧ ∃ r V, cl[p.2]? = some r ∧ t_OB a (D.1 p.2) r.2.2 (D.2 p.2) H V
  | [], _, p, hp => absurd hp List.not_mem_nil
  | _ :: _, ⟨⟨a, h1, h2, h3, h4, _⟩, hr⟩, p, hp => by
    rcases List.mem_cons.mp hp with rfl | hp
    · exact ⟨a, h1, h2, h3, h4⟩
    · exact z_fx_in hr p hp
theorem z_fx_app {D : va_G} {cl : List vw_C} {T : zTp} {sz n0 : Nat} {raw : Option Nat} {H : Heap} {env w : List Value} : ∀ {X : List (Nat × Nat)}, z_fx D cl T sz n0 raw H env X → z_fx D cl T sz n0 raw H (env ++ w) X
  | [], h => h
  | _ :: _, ⟨⟨a, h1, h2, h3, h4, h5⟩, hr⟩ => by
    refine ⟨⟨a, z_app h1, h2, h3, h4, fun p hp => ?_⟩, z_fx_app hr⟩
    obtain ⟨b, hb, _⟩ := z_fx_in hr p hp
    rw [z_app hb, ← hb]
    exact h5 p hp
/-- the newest entry -/
def z_get : List (Nat × zV) → Nat → Option zV
  | [], _ => none
  | q :: V, i => cond (Nat.beq q.1 i) (some q.2) (z_get V i)
theorem z_get_mem : ∀ {V : List (Nat × zV)} {i : Nat} {c : zV}, z_get V i = some c → (i, c) ∈ V
  | [], _, _, h => by simp [z_get] at h
  | q :: V, i, c, h => by
    unfold z_get at h
    cases hb : Nat.beq q.1 i with
    | true =>
      rw [hb] at h
      cases h
      rw [← z_beq hb]
      exact List.mem_cons_self
    | false =>
      rw [hb] at h
      exact List.mem_cons_of_mem _ (z_get_mem h)
theorem z_get_ok {OB : Nat → Nat} {T : zTp} {env : List Value} {V : List (Nat × zV)} {i : Nat} {c : zV} (h : z_fv OB T env V) (e : z_get V i = some c) : ∃ v, env[i]? = some v ∧ z_v OB T c v := h _ (z_get_mem e)
def z_loc : List (Nat × Nat) → Nat → Option Nat
  | [], _ => none
  | q :: L, i => cond (Nat.beq q.1 i) (some q.2) (z_loc L i)
theorem z_loc_mem : ∀ {L : List (Nat × Nat)} {i d : Nat}, z_loc L i = some d → (i, d) ∈ L
  | [], _, _, h => by simp [z_loc] at h
  | q :: L, i, d, h => by
    unfold z_loc at h
    cases hb : Nat.beq q.1 i with
    | true =>
      rw [hb] at h
      cases h
      rw [← z_beq hb]
      exact List.mem_cons_self
    | false =>
      rw [hb] at h
      exact List.mem_cons_of_mem _ (z_loc_mem h)
/-- a lower bound of the difference y - x, by so many steps -/
def z_lbs (R0 : List (Nat × Nat × Int)) : Nat → Nat → Nat → Option Int
  | 0, y, x => cond (Nat.beq y x) (some 0) none
  | f + 1, y, x => cond (Nat.beq y x) (some 0) (R0.findSome? (fun q => cond (Nat.beq q.1 y) ((z_lbs R0 f q.2.1 x).map (fun c => c + q.2.2)) none))
theorem z_lbs_ok {env : List Value} {R : List (Nat × Nat × Int)} (h : z_fr env R) : ∀ {f y x : Nat} {c : Int} {vy : Int32}, z_lbs R f y x = some c → env[y]? = some (.int vy) → ∃ vx : Int32, env[x]? = some (.int vx) ∧ vx.toInt + c ≤ vy.toInt := by
  intro f
  induction f with
  | zero =>
    intro y x c vy e hy
    unfold z_lbs at e
    cases hb : Nat.beq y x with
    | true => rw [hb] at e; cases e; rw [← z_beq hb]; exact ⟨vy, hy, by omega⟩
    | false => rw [hb] at e; cases e
  | succ f ih =>
    intro y x c vy e hy
    unfold z_lbs at e
    cases hb : Nat.beq y x with
    | true => rw [hb] at e; cases e; rw [← z_beq hb]; exact ⟨vy, hy, by omega⟩
    | false =>
      rw [hb] at e
      obtain ⟨q, hq, hq2⟩ := List.exists_of_findSome?_eq_some e
      cases hb2 : Nat.beq q.1 y with
      | false => rw [hb2] at hq2; cases hq2
      | true =>
        rw [hb2] at hq2
        obtain ⟨xx, yy, e1, e2, e3⟩ := h q hq
        rw [z_beq hb2, hy] at e1
        cases e1
        cases hr : z_lbs R f q.2.1 x with
        | none => rw [hr] at hq2; cases hq2
        | some c2 =>
          rw [hr] at hq2
          have hc : c = c2 + q.2.2 := (Option.some.inj hq2).symm
          obtain ⟨vx, h1, h2⟩ := ih hr e2
          exact ⟨vx, h1, by omega⟩
end
section
/-! What is kept of laws in every typed heap. -/
def z_T1 (T : zTp) (a t : Nat) : zTp := fun q => if q = a then some t else T q
theorem z_T1_at {T : zTp} {a tau : Nat} : z_T1 T a tau a = some tau := by unfold z_T1; rw [if_pos rfl]
theorem z_T1_ne {T : zTp} {a tau b : Nat} (h : b ≠ a) : z_T1 T a tau b = T b := by unfold z_T1; rw [if_neg h]
def zp_q (D said w : Int → Int) (cm wt k : Int) : Prop :=
  0 ≤ said k ∧ 0 ≤ D k ∧
  ((said k / 1048576 = 0 ∧ D (k + 1) ≤ D k + 1) ∨ (said k / 1048576 = 1 ∧ said k % 1048576 ≤ 12 ∧ D (k + 1) ≤ D k + 1) ∨ (2 ≤ said k / 1048576 ∧ said k / 1048576 ≤ 9 ∧ 2 ≤ D k ∧ D (k + 1) ≤ D k - 1) ∨ (said k / 1048576 = 10 ∧ 1 ≤ D k ∧ D (k + 1) ≤ D k) ∨
    ((said k / 1048576 = 11 ∨ said k / 1048576 = 12) ∧ 1 ≤ D k ∧ D (k + 1) ≤ D k - 1 ∧ ((k < said k % 1048576 ∧ said k % 1048576 ≤ cm ∧ D (said k % 1048576) ≤ D k) ∨ ∃ j, 0 ≤ j ∧ j < wt ∧ (w j / 1048576 = 11 ∨ w j / 1048576 = 12) ∧ w j % 1048576 = k)))
/-- the clauses that are read -/
def zp_cl (D sf sh st : Int → Int) (cm sm : Int) : Prop := ∀ q, 0 ≤ q → q < sm → 0 ≤ sf q ∧ sf q ≤ sh q ∧ sh q ≤ st q ∧ st q ≤ cm ∧ D (sf q) = 0 ∧ D (sh q) = 0
/-- a law as it is kept: where codes are and how deep the stack is ahead of each -/
def zp_J (codes : Int → Int) (cs : Int) (cf ch ct : Int → Int) : Prop :=
  ∃ (D : Int → Int) (cm : Int), 0 ≤ cm ∧ cm ≤ 200 ∧ (∀ k, 0 ≤ k → k < cm → zp_q D codes (fun _ => 0) cm 0 k) ∧ 0 ≤ cs ∧ cs ≤ 14 ∧ zp_cl D cf ch ct cm cs
/-- steps as they are kept: a letter's value is a letter -/
def zr_J (kinds vals : Int → Int) : Prop := ∀ k, 0 ≤ k → k < 200 → 0 ≤ kinds k ∧ kinds k ≤ 12 ∧ 0 ≤ vals k ∧ vals k ≤ 99999 ∧ (kinds k = 1 → vals k ≤ 12)
/-- what stands in an array of ints -/
def zj_g (f : Nat → Value) : Int → Int := fun i => match f i.toNat with
  | .int x => x.toInt
  | _ => 0
def zj_c (T : zTp) (DA : Nat → ClassId) (H : Heap) (b : Nat) (g : Int → Int) : Prop := (T b).isSome = true ∧ ∃ (n : Nat) (f : Nat → Value), H[b]? = some (arrV (DA 0) n f) ∧ g = zj_g f
def zj_obj (T : zTp) (D : va_G) (DA : Nat → ClassId) (H : Heap) (a ci : Nat) : Prop :=
  (ci = 12 → ∃ (cs : Int32) (b1 b2 b3 b4 : Nat) (g1 g2 g3 g4 : Int → Int), z_sl H a (D.2 ci 13) (.int cs) ∧ (z_sl H a (D.2 ci 20) (.ref b1) ∧ zj_c T DA H b1 g1) ∧ (z_sl H a (D.2 ci 22) (.ref b2) ∧ zj_c T DA H b2 g2) ∧ (z_sl H a (D.2 ci 23) (.ref b3) ∧ zj_c T DA H b3 g3) ∧ (z_sl H a (D.2 ci 24) (.ref b4) ∧ zj_c T DA H b4 g4) ∧ zp_J g1 cs.toInt g2 g3 g4) ∧
  (ci = 4 → ∃ (b1 b2 : Nat) (g1 g2 : Int → Int), (z_sl H a (D.2 ci 0) (.ref b1) ∧ zj_c T DA H b1 g1) ∧ (z_sl H a (D.2 ci 1) (.ref b2) ∧ zj_c T DA H b2 g2) ∧ zr_J g1 g2)
def zj_refs (ci : Nat) : List Nat := cond (Nat.beq ci 12) [20, 22, 23, 24] (cond (Nat.beq ci 4) [0, 1] [])
def zj_slots (ci : Nat) : List Nat := cond (Nat.beq ci 12) [13, 20, 22, 23, 24] (cond (Nat.beq ci 4) [0, 1] [])
/-- a type that must not be stored to: an array of a law, or no one knows -/
def zj_prot (TY : List zTy) (t : Nat) : Bool := TY.any (fun ty => match ty with
  | .inl o => (zj_refs o.1).any (fun k => match o.2[k]? with
    | some (.inr (.inl u)) => Nat.beq u t
    | _ => true)
  | .inr _ => false)
/-- objects of a law's class share no array -/
def zj_q (D : va_G) (TY : List zTy) (T : zTp) (H : Heap) : Prop := ∀ a a' t t' ci fl fl', T a = some t → TY[t]? = some (.inl (ci, fl)) → T a' = some t' → TY[t']? = some (.inl (ci, fl')) → ∀ k ∈ zj_refs ci, ∀ b, z_sl H a (D.2 ci k) (.ref b) → z_sl H a' (D.2 ci k) (.ref b) → a = a'
def z_J (D : va_G) (DA : Nat → ClassId) (TY : List zTy) (T : zTp) (H : Heap) : Prop := (∀ a t ci fl, T a = some t → TY[t]? = some (.inl (ci, fl)) → zj_obj T D DA H a ci) ∧ zj_q D TY T H
section ZFROZEN
variable {OB : Nat → Nat} {D : va_G} {DA : Nat → ClassId} {cl : List vw_C} {TY : List zTy} {T T' : zTp} {H H1 : Heap}
theorem zj_c_kept {b : Nat} {g : Int → Int} (h : zj_c T DA H b g) (hT : (T b).isSome = true → (T' b).isSome = true) (hr : H1[b]? = H[b]?) : zj_c T' DA H1 b g := by
  obtain ⟨h1, n, f, h2, h3⟩ := h
  exact ⟨hT h1, n, f, by rw [hr]; exact h2, h3⟩
theorem zj_kept {a ci : Nat} (h : zj_obj T D DA H a ci) (hT : ∀ b, (T b).isSome = true → (T' b).isSome = true) (hs : ∀ k ∈ zj_slots ci, ∀ w, z_sl H a (D.2 ci k) w → z_sl H1 a (D.2 ci k) w) (hr : ∀ k ∈ zj_refs ci, ∀ b, z_sl H a (D.2 ci k) (.ref b) → (T b).isSome = true → H1[b]? = H[b]?) : zj_obj T' D DA H1 a ci := by
  refine ⟨fun e => ?_, fun e => ?_⟩
  · obtain ⟨cs, b1, b2, b3, b4, g1, g2, g3, g4, s0, ⟨s1, c1⟩, ⟨s2, c2⟩, ⟨s3, c3⟩, ⟨s4, c4⟩, hJ⟩ := h.1 e
    subst e
    exact ⟨cs, b1, b2, b3, b4, g1, g2, g3, g4, hs 13 (by decide) _ s0, ⟨hs 20 (by decide) _ s1, zj_c_kept c1 (hT _) (hr 20 (by decide) _ s1 c1.1)⟩, ⟨hs 22 (by decide) _ s2, zj_c_kept c2 (hT _) (hr 22 (by decide) _ s2 c2.1)⟩, ⟨hs 23 (by decide) _ s3, zj_c_kept c3 (hT _) (hr 23 (by decide) _ s3 c3.1)⟩, ⟨hs 24 (by decide) _ s4, zj_c_kept c4 (hT _) (hr 24 (by decide) _ s4 c4.1)⟩, hJ⟩
  · obtain ⟨b1, b2, g1, g2, ⟨s1, c1⟩, ⟨s2, c2⟩, hJ⟩ := h.2 e
    subst e
    exact ⟨b1, b2, g1, g2, ⟨hs 0 (by decide) _ s1, zj_c_kept c1 (hT _) (hr 0 (by decide) _ s1 c1.1)⟩, ⟨hs 1 (by decide) _ s2, zj_c_kept c2 (hT _) (hr 1 (by decide) _ s2 c2.1)⟩, hJ⟩
/-- a field of a typed object by its type -/
theorem zj_fld {a t ci k : Nat} {fl : List zV} {w : Value} (hb : ∀ a t, T a = some t → ∃ ty, TY[t]? = some ty ∧ z_cell OB D DA cl T H a ty) (ha : T a = some t) (hty : TY[t]? = some (.inl (ci, fl))) {c : zV} (hc : fl[k]? = some c) (hw : z_sl H a (D.2 ci k) w) : z_v OB T c w := by
  obtain ⟨ty, h1, h2⟩ := hb a t ha
  rw [hty] at h1
  cases h1
  obtain ⟨r, q1, q2, V, ⟨cell, q3, q4, q5, q6⟩, q7⟩ := h2
  have hlt : k < r.2.2 := by rw [← q2]; exact (List.getElem?_eq_some_iff.mp hc).1
  obtain ⟨cell2, x1, x2, x3⟩ := hw
  rw [q3] at x1
  cases x1
  have := q6 k hlt
  rw [x3] at this
  cases this
  exact q7 k c hc
theorem zj_prot_ok {t t0 ci k : Nat} {fl : List zV} (h : zj_prot TY t0 = false) (hty : TY[t]? = some (.inl (ci, fl))) (hk : k ∈ zj_refs ci) : ∃ u, fl[k]? = some (.inr (.inl u)) ∧ u ≠ t0 := by
  unfold zj_prot at h
  have h1 := List.any_eq_false.mp h _ (List.mem_of_getElem? hty)
  have h1 : ¬ (zj_refs ci).any (fun k => match fl[k]? with
    | some (.inr (.inl u)) => Nat.beq u t0
    | _ => true) = true := h1
  have h2 := List.any_eq_false.mp (by simpa using h1) k hk
  split at h2
  · rename_i u hu
    exact ⟨u, hu, fun e => h2 (by rw [e]; exact Nat.beq_refl _)⟩
  · exact absurd rfl h2
theorem zj_has {a ci k : Nat} (h : zj_obj T D DA H a ci) (hk : k ∈ zj_refs ci) : ∃ b : Nat, z_sl H a (D.2 ci k) (.ref b) := by
  by_cases e : ci = 12
  · subst e
    obtain ⟨cs, b1, b2, b3, b4, g1, g2, g3, g4, s0, ⟨s1, c1⟩, ⟨s2, c2⟩, ⟨s3, c3⟩, ⟨s4, c4⟩, hJ⟩ := h.1 rfl
    have hk : k ∈ [20, 22, 23, 24] := hk
    simp only [List.mem_cons, List.not_mem_nil, or_false] at hk
    rcases hk with rfl | rfl | rfl | rfl
    · exact ⟨_, s1⟩
    · exact ⟨_, s2⟩
    · exact ⟨_, s3⟩
    · exact ⟨_, s4⟩
  · by_cases e4 : ci = 4
    · subst e4
      obtain ⟨b1, b2, g1, g2, ⟨s1, c1⟩, ⟨s2, c2⟩, hJ⟩ := h.2 rfl
      have hk : k ∈ [0, 1] := hk
      simp only [List.mem_cons, List.not_mem_nil, or_false] at hk
      rcases hk with rfl | rfl
      · exact ⟨_, s1⟩
      · exact ⟨_, s2⟩
    · exfalso
      have n1 : Nat.beq ci 12 = false := by
        cases hb : Nat.beq ci 12 with
        | false => rfl
        | true => exact absurd (Nat.eq_of_beq_eq_true hb) e
      have n2 : Nat.beq ci 4 = false := by
        cases hb : Nat.beq ci 4 with
        | false => rfl
        | true => exact absurd (Nat.eq_of_beq_eq_true hb) e4
      unfold zj_refs at hk
      rw [n1, n2] at hk
      exact absurd hk List.not_mem_nil
theorem zj_sub {ci k : Nat} (h : k ∈ zj_refs ci) : k ∈ zj_slots ci := by
  unfold zj_refs at h
  unfold zj_slots
  cases h1 : Nat.beq ci 12 with
  | true =>
    rw [h1] at h
    exact List.mem_cons_of_mem _ h
  | false =>
    rw [h1] at h
    exact h
theorem zj_fun {a k : Nat} {v w : Value} (h : z_sl H a k v) (h2 : z_sl H a k w) : v = w := by
  obtain ⟨c1, e1, _, e3⟩ := h
  obtain ⟨c2, f1, _, f3⟩ := h2
  rw [e1] at f1
  cases f1
  rw [e3] at f3
  exact Option.some.inj f3
/-- what is kept forward is kept backward -/
theorem zj_back {a ci k b : Nat} (h : zj_obj T D DA H a ci) (hk : k ∈ zj_refs ci) (hs : ∀ k ∈ zj_slots ci, ∀ w, z_sl H a (D.2 ci k) w → z_sl H1 a (D.2 ci k) w) (h1 : z_sl H1 a (D.2 ci k) (.ref b)) : z_sl H a (D.2 ci k) (.ref b) := by
  obtain ⟨b0, h0⟩ := zj_has h hk
  have := zj_fun (hs k (zj_sub hk) _ h0) h1
  cases this
  exact h0
theorem zj_q_kept (hJ : z_J D DA TY T H) (hs : ∀ a t ci fl, T a = some t → TY[t]? = some (.inl (ci, fl)) → ∀ k ∈ zj_slots ci, ∀ w, z_sl H a (D.2 ci k) w → z_sl H1 a (D.2 ci k) w) : zj_q D TY T H1 := by
  intro a a' t t' ci fl fl' h1 h2 h3 h4 k hk b h5 h6
  exact hJ.2 a a' t t' ci fl fl' h1 h2 h3 h4 k hk b (zj_back (hJ.1 a t ci fl h1 h2) hk (hs a t ci fl h1 h2) h5) (zj_back (hJ.1 a' t' ci fl' h3 h4) hk (hs a' t' ci fl' h3 h4) h6)
/-- one typed cell is written that is no law's -/
theorem zJ_set {a0 t0 : Nat} (hJ : z_J D DA TY T H) (hb : ∀ a t, T a = some t → ∃ ty, TY[t]? = some ty ∧ z_cell OB D DA cl T H a ty) (ht0 : T a0 = some t0) (hp : zj_prot TY t0 = false) (oq : ∀ b : Nat, b ≠ a0 → H1[b]? = H[b]?)
    (h0 : ∀ ci fl, TY[t0]? = some (.inl (ci, fl)) → ∀ k ∈ zj_slots ci, ∀ w, z_sl H a0 (D.2 ci k) w → z_sl H1 a0 (D.2 ci k) w) : z_J D DA TY T H1 := by
  have hs : ∀ a t ci fl, T a = some t → TY[t]? = some (.inl (ci, fl)) → ∀ k ∈ zj_slots ci, ∀ w, z_sl H a (D.2 ci k) w → z_sl H1 a (D.2 ci k) w := by
    intro a t ci fl ha hty k hk w hw
    by_cases e : a = a0
    · subst e
      rw [ht0] at ha
      cases ha
      exact h0 ci fl hty k hk w hw
    · obtain ⟨cell, x1, x2, x3⟩ := hw
      exact ⟨cell, by rw [oq a e]; exact x1, x2, x3⟩
  refine ⟨fun a t ci fl ha hty => ?_, zj_q_kept hJ hs⟩
  refine zj_kept (hJ.1 a t ci fl ha hty) (fun _ h => h) (fun k hk w hw => hs a t ci fl ha hty k hk w hw) (fun k hk b hw _ => oq b (fun e => ?_))
  · obtain ⟨u, u1, u2⟩ := zj_prot_ok hp hty hk
    obtain ⟨b2, e2, hb2⟩ := zj_fld hb ha hty u1 hw
    cases e2
    rw [e, ht0] at hb2
    exact u2 (Option.some.inj hb2).symm
/-- a cell without a type is written -/
theorem zJ_raw {a0 : Nat} (hJ : z_J D DA TY T H) (ht0 : T a0 = none) (oq : ∀ b : Nat, b ≠ a0 → H1[b]? = H[b]?) : z_J D DA TY T H1 := by
  have hs : ∀ a t ci fl, T a = some t → TY[t]? = some (.inl (ci, fl)) → ∀ k ∈ zj_slots ci, ∀ w, z_sl H a (D.2 ci k) w → z_sl H1 a (D.2 ci k) w := by
    intro a t ci fl ha hty k hk w hw
    obtain ⟨cell, x1, x2, x3⟩ := hw
    exact ⟨cell, by rw [oq a (fun e => by rw [e, ht0] at ha; cases ha)]; exact x1, x2, x3⟩
  refine ⟨fun a t ci fl ha hty => ?_, zj_q_kept hJ hs⟩
  exact zj_kept (hJ.1 a t ci fl ha hty) (fun _ h => h) (hs a t ci fl ha hty) (fun k hk b hw hs => oq b (fun e => by rw [e, ht0] at hs; cases hs))
/-- a cell gets a type; the heap may grow -/
theorem zJ_grow {a0 tau : Nat} (hJ : z_J D DA TY T H) (ht0 : T a0 = none) (hlt : ∀ a t, T a = some t → a < H.size) (oq : ∀ b : Nat, b < H.size → b ≠ a0 → H1[b]? = H[b]?) (hn : ∀ ci fl, TY[tau]? = some (.inl (ci, fl)) → ci ≠ 12 ∧ ci ≠ 4) : z_J D DA TY (z_T1 T a0 tau) H1 := by
  have hs : ∀ a t ci fl, T a = some t → TY[t]? = some (.inl (ci, fl)) → ∀ k ∈ zj_slots ci, ∀ w, z_sl H a (D.2 ci k) w → z_sl H1 a (D.2 ci k) w := by
    intro a t ci fl ha hty k hk w hw
    obtain ⟨cell, x1, x2, x3⟩ := hw
    exact ⟨cell, by rw [oq a (hlt a t ha) (fun e => by rw [e, ht0] at ha; cases ha)]; exact x1, x2, x3⟩
  have nil : ∀ {ci k : Nat} {fl : List zV}, TY[tau]? = some (.inl (ci, fl)) → k ∈ zj_refs ci → False := by
    intro ci k fl hty hk
    obtain ⟨e, e4⟩ := hn ci fl hty
    have n1 : Nat.beq ci 12 = false := by
      cases hb : Nat.beq ci 12 with
      | false => rfl
      | true => exact absurd (Nat.eq_of_beq_eq_true hb) e
    have n2 : Nat.beq ci 4 = false := by
      cases hb : Nat.beq ci 4 with
      | false => rfl
      | true => exact absurd (Nat.eq_of_beq_eq_true hb) e4
    unfold zj_refs at hk
    rw [n1, n2] at hk
    exact absurd hk List.not_mem_nil
  refine ⟨fun a t ci fl ha hty => ?_, fun a a' t t' ci fl fl' h1 h2 h3 h4 k hk b h5 h6 => ?_⟩
  · by_cases e : a = a0
    · subst e
      rw [z_T1_at] at ha
      cases ha
      obtain ⟨e1, e2⟩ := hn ci fl hty
      exact ⟨fun e => absurd e e1, fun e => absurd e e2⟩
    · rw [z_T1_ne e] at ha
      have lt : ∀ b, (T b).isSome = true → b < H.size ∧ b ≠ a0 := by
        intro b hb
        cases hT : T b with
        | none => rw [hT] at hb; cases hb
        | some u => exact ⟨hlt b u hT, fun e2 => by rw [e2, ht0] at hT; cases hT⟩
      refine zj_kept (hJ.1 a t ci fl ha hty) (fun b hb => ?_) (hs a t ci fl ha hty) (fun k hk b hw hs => oq b (lt b hs).1 (lt b hs).2)
      rw [z_T1_ne (lt b hb).2]; exact hb
  · by_cases e : a = a0
    · rw [e, z_T1_at] at h1
      cases h1
      exact absurd (nil h2 hk) (fun h => h)
    · by_cases e' : a' = a0
      · rw [e', z_T1_at] at h3
        cases h3
        exact absurd (nil h4 hk) (fun h => h)
      · rw [z_T1_ne e] at h1
        rw [z_T1_ne e'] at h3
        exact zj_q_kept hJ hs a a' t t' ci fl fl' h1 h2 h3 h4 k hk b h5 h6
/-- other types, of the same classes -/
theorem zJ_map {f : Nat → Nat} (hJ : z_J D DA TY T H) (hf : ∀ a t, T a = some t → ∀ ci fl, TY[f t]? = some (.inl (ci, fl)) → ∃ fl0, TY[t]? = some (.inl (ci, fl0))) : z_J D DA TY (fun b => (T b).map f) H := by
  have back : ∀ a t, (T a).map f = some t → ∃ u, T a = some u ∧ t = f u := by
    intro a t h
    cases hT : T a with
    | none => simp [hT] at h
    | some u => exact ⟨u, rfl, by simp [hT] at h; exact h.symm⟩
  refine ⟨fun a t ci fl ha hty => ?_, fun a a' t t' ci fl fl' h1 h2 h3 h4 k hk b h5 h6 => ?_⟩
  · obtain ⟨u, hT, rfl⟩ := back a t ha
    obtain ⟨fl0, h0⟩ := hf a u hT ci fl hty
    refine zj_kept (hJ.1 a u ci fl0 hT h0) (fun b hb => ?_) (fun k hk w hw => hw) (fun k hk b hw hs => rfl)
    cases hTb : T b with
    | none => rw [hTb] at hb; cases hb
    | some v => simp [hTb]
  · obtain ⟨u, u1, rfl⟩ := back a t h1
    obtain ⟨u', u1', rfl⟩ := back a' t' h3
    obtain ⟨f0, f1⟩ := hf a u u1 _ _ h2
    obtain ⟨f0', f1'⟩ := hf a' u' u1' _ _ h4
    exact hJ.2 a a' u u' ci f0 f0' u1 f1 u1' f1' k hk b h5 h6
/-- the heap grows -/
theorem zJ_ext (hJ : z_J D DA TY T H) (hlt : ∀ a t, T a = some t → a < H.size) (oq : ∀ b : Nat, b < H.size → H1[b]? = H[b]?) : z_J D DA TY T H1 := by
  have hs : ∀ a t ci fl, T a = some t → TY[t]? = some (.inl (ci, fl)) → ∀ k ∈ zj_slots ci, ∀ w, z_sl H a (D.2 ci k) w → z_sl H1 a (D.2 ci k) w := by
    intro a t ci fl ha hty k hk w hw
    obtain ⟨cell, x1, x2, x3⟩ := hw
    exact ⟨cell, by rw [oq a (hlt a t ha)]; exact x1, x2, x3⟩
  refine ⟨fun a t ci fl ha hty => ?_, zj_q_kept hJ hs⟩
  refine zj_kept (hJ.1 a t ci fl ha hty) (fun _ h => h) (hs a t ci fl ha hty) (fun k hk b hw hs => ?_)
  cases hT : T b with
  | none => rw [hT] at hs; cases hs
  | some u => exact oq b (hlt b u hT)
end ZFROZEN
end
section
/-! What an abstract state says; how it goes on. -/
def z_ph1 (PHI : List (List Nat)) (ph t : Nat) : Nat := match ph with
  | 0 => t
  | k + 1 => (PHI.getD k []).getD t t
/-- from 1000 on: one behind another -/
def z_phi (PHI : List (List Nat)) (ph t : Nat) : Nat := cond (Nat.blt ph 1000) (z_ph1 PHI ph t) (z_ph1 PHI (ph / 1000) (z_ph1 PHI (ph % 1000) t))
theorem z_phi_cmp {PHI : List (List Nat)} {p g t : Nat} (hp : Nat.blt p 1000 = true) (hg : Nat.blt g 1000 = true) (h0 : g ≠ 0) : z_phi PHI (g * 1000 + p) t = z_phi PHI g (z_phi PHI p t) := by
  have hp2 : p + 1 ≤ 1000 := Nat.le_of_ble_eq_true hp
  have e1 : (g * 1000 + p) / 1000 = g := by omega
  have e2 : (g * 1000 + p) % 1000 = p := by omega
  have e3 : Nat.blt (g * 1000 + p) 1000 = false := by
    cases h : Nat.blt (g * 1000 + p) 1000 with
    | false => rfl
    | true =>
      have : g * 1000 + p + 1 ≤ 1000 := Nat.le_of_ble_eq_true h
      omega
  unfold z_phi
  rw [e3, e1, e2, hp, hg]
  rfl
def z_ht (OB : Nat → Nat) (D : va_G) (DA : Nat → ClassId) (cl : List vw_C) (TY : List zTy) (T : zTp) (H : Heap) : Prop := (∀ a t, T a = some t → ∃ ty, TY[t]? = some ty ∧ z_cell OB D DA cl T H a ty) ∧ z_J D DA TY T H
/-- final fields of typed objects are as they were -/
def z_fin (D : va_G) (cl : List vw_C) (TY : List zTy) (T0 : zTp) (H0 : Heap) (T : zTp) (H : Heap) : Prop := ∀ a t ci fl, T0 a = some t → TY[t]? = some (.inl (ci, fl)) → ∃ t' fl', T a = some t' ∧ TY[t']? = some (.inl (ci, fl')) ∧ ∀ r k w, cl[ci]? = some r → k < r.2.2 → (r.2.1 k).2.2.2 = true → z_sl H0 a (D.2 ci k) w → z_sl H a (D.2 ci k) w
theorem z_fin_rf {D : va_G} {cl : List vw_C} {TY : List zTy} {T : zTp} {H : Heap} : z_fin D cl TY T H T H := fun _ t _ fl h1 h2 => ⟨t, fl, h1, h2, fun _ _ _ _ _ _ h => h⟩
theorem z_fin_tr {D : va_G} {cl : List vw_C} {TY : List zTy} {T0 T1 T2 : zTp} {H0 H1 H2 : Heap} (h : z_fin D cl TY T0 H0 T1 H1) (h2 : z_fin D cl TY T1 H1 T2 H2) : z_fin D cl TY T0 H0 T2 H2 := fun a t ci fl e1 e2 => by
  obtain ⟨t1, fl1, g1, g2, g3⟩ := h a t ci fl e1 e2
  obtain ⟨t2, fl2, k1, k2, k3⟩ := h2 a t1 ci fl1 g1 g2
  exact ⟨t2, fl2, k1, k2, fun r k w x1 x2 x3 x4 => k3 r k w x1 x2 x3 (g3 r k w x1 x2 x3 x4)⟩
def z_mem (OB : Nat → Nat) (D : va_G) (DA : Nat → ClassId) (cl : List vw_C) (TY : List zTy) (PHI : List (List Nat)) (sz : Nat) (raw : Option Nat) (pu : Bool) (T0 : zTp) (H0 : Heap) (T : zTp) (H : Heap) (locs : List Loc) (ph : Nat) : Prop :=
  z_ht OB D DA cl TY T H ∧ ((∀ a t, T a = some t → sz ≤ a) ∧ (pu = true → H = H0 ∧ T = T0) ∧ z_fin D cl TY T0 H0 T H) ∧ (∀ a t, T0 a = some t → T a = some (z_phi PHI ph t)) ∧ (∀ q, q < H0.size → T0 q = none → raw ≠ some q → T q = none ∧ H[q]? = H0[q]?) ∧ va_S (fun q => sz ≤ q) H0 H locs
def z_sat (OB : Nat → Nat) (D : va_G) (DA : Nat → ClassId) (cl : List vw_C) (TY : List zTy) (PHI : List (List Nat)) (sz : Nat) (raw : Option Nat) (pu : Bool) (T0 : zTp) (H0 : Heap) (env0 : List Value) (nL : Nat) (st : zS) (T : zTp) (H : Heap) (locs : List Loc) (env : List Value) (ls : Array Slot) (stk : List Value) : Prop :=
  env.length = z_n st ∧ (∃ w, env = env0 ++ w) ∧ z_ls nL ls env (z_L st) ∧ z_stk env (z_S st) stk ∧ z_fv OB T env (z_V st) ∧ z_ff D cl H env (z_F st) ∧ z_fe H env (z_E st) ∧ z_fr env (z_R st) ∧ z_fx D cl T sz H0.size raw H env (z_X st) ∧ z_mem OB D DA cl TY PHI sz raw pu T0 H0 T H locs (z_ph st)
/-- a value comes on the stack, with what is known of it -/
def z_psh (st : zS) (S : List Nat) (c : zV) (rs : List (Nat × Nat × Int)) : zS := (z_L st, z_n st :: S, z_n st + 1, (z_n st, c) :: z_V st, z_F st, z_E st, rs ++ z_R st, z_X st, z_C st, z_ph st)
/-- another stack -/
def z_stS (st : zS) (S : List Nat) : zS := (z_L st, S, z_n st, z_V st, z_F st, z_E st, z_R st, z_X st, z_C st, z_ph st)
section ZSAT
variable {OB : Nat → Nat} {D : va_G} {DA : Nat → ClassId} {cl : List vw_C} {TY : List zTy} {PHI : List (List Nat)} {sz : Nat} {raw : Option Nat} {pu : Bool} {T0 : zTp} {H0 : Heap} {env0 : List Value} {nL : Nat} {st : zS} {T : zTp} {H : Heap} {locs : List Loc} {env : List Value} {ls : Array Slot} {stk : List Value}
theorem z_sat_psh (h : z_sat OB D DA cl TY PHI sz raw pu T0 H0 env0 nL st T H locs env ls stk) {S : List Nat} {k : List Value} (hS : z_stk env S k) {c : zV} {v : Value} (hv : z_v OB T c v) {rs : List (Nat × Nat × Int)} (hr : z_fr (env ++ [v]) rs) :
    z_sat OB D DA cl TY PHI sz raw pu T0 H0 env0 nL (z_psh st S c rs) T H locs (env ++ [v]) ls (v :: k) := by
  obtain ⟨h1, ⟨w, h2⟩, h3, h4, h5, h6, h7, h8, h9, h10⟩ := h
  have hn : (env ++ [v])[z_n st]? = some v := by rw [← h1]; simp
  refine ⟨?_, ⟨w ++ [v], ?_⟩, z_ls_app h3, ⟨v, k, rfl, hn, z_stk_app hS⟩, ?_, z_ff_app h6, z_fe_app h7, ?_, z_fx_app h9, h10⟩
  · show (env ++ [v]).length = z_n st + 1
    rw [List.length_append, h1]; rfl
  · rw [h2, List.append_assoc]
  · intro q hq
    rcases List.mem_cons.mp hq with rfl | hq
    · exact ⟨v, hn, hv⟩
    · exact z_fv_app h5 q hq
  · intro q hq
    rcases List.mem_append.mp hq with hq | hq
    · exact hr q hq
    · exact z_fr_app h8 q hq
theorem z_sat_stS (h : z_sat OB D DA cl TY PHI sz raw pu T0 H0 env0 nL st T H locs env ls stk) {S : List Nat} {k : List Value} (hS : z_stk env S k) :
    z_sat OB D DA cl TY PHI sz raw pu T0 H0 env0 nL (z_stS st S) T H locs env ls k := by
  obtain ⟨h1, h2, h3, h4, h5⟩ := h
  exact ⟨h1, h2, h3, hS, h5⟩
/-- more is known of values -/
def z_mor (st : zS) (S : List Nat) (vs : List (Nat × zV)) (rs : List (Nat × Nat × Int)) : zS := (z_L st, S, z_n st, vs ++ z_V st, z_F st, z_E st, rs ++ z_R st, z_X st, z_C st, z_ph st)
theorem z_sat_mor (h : z_sat OB D DA cl TY PHI sz raw pu T0 H0 env0 nL st T H locs env ls stk) {S : List Nat} {k : List Value} (hS : z_stk env S k) {vs : List (Nat × zV)} (hv : z_fv OB T env vs) {rs : List (Nat × Nat × Int)} (hr : z_fr env rs) :
    z_sat OB D DA cl TY PHI sz raw pu T0 H0 env0 nL (z_mor st S vs rs) T H locs env ls k := by
  obtain ⟨h1, h2, h3, h4, h5, h6, h7, h8, h9, h10⟩ := h
  refine ⟨h1, h2, h3, hS, fun q hq => ?_, h6, h7, fun q hq => ?_, h9, h10⟩
  · rcases List.mem_append.mp hq with hq | hq
    · exact hv q hq
    · exact h5 q hq
  · rcases List.mem_append.mp hq with hq | hq
    · exact hr q hq
    · exact h8 q hq
/-- a local is set -/
def z_stL (st : zS) (S : List Nat) (i d : Nat) : zS := ((i, d) :: (z_L st).filter (fun q => !(Nat.beq q.1 i)), S, z_n st, z_V st, z_F st, z_E st, z_R st, z_X st, z_C st, z_ph st)
theorem z_ls_set {L : List (Nat × Nat)} {i d : Nat} {v : Value} {lv : List (Nat × Value)} (hc : ∀ q ∈ lv, q.2.category = 1) (h3 : ∀ q ∈ L, ∃ v, env[q.2]? = some v ∧ (q.1, v) ∈ lv) (hd : env[d]? = some v) (hv : v.category = 1) {ls' : Array Slot} (hl : lv_has ls' nL ((i, v) :: lv.filter (fun q => !(q.1 == i) && !(q.1 + 1 == i && q.2.category == 2)))) :
    z_ls nL ls' env ((i, d) :: L.filter (fun q => !(Nat.beq q.1 i))) := by
  refine ⟨_, hl, fun q hq => ?_, fun q hq => ?_⟩
  · rcases List.mem_cons.mp hq with rfl | hq
    · exact hv
    · exact hc q (List.mem_filter.mp hq).1
  · rcases List.mem_cons.mp hq with rfl | hq
    · exact ⟨v, hd, List.mem_cons_self⟩
    · obtain ⟨hq1, hq2⟩ := List.mem_filter.mp hq
      obtain ⟨w, e, m⟩ := h3 q hq1
      refine ⟨w, e, List.mem_cons_of_mem _ (List.mem_filter.mpr ⟨m, ?_⟩)⟩
      have hne : ¬ q.1 = i := by
        intro hh
        rw [hh] at hq2
        simp at hq2
      have hcat := hc _ m
      simp [hne, hcat]
theorem z_sat_stL (h : z_sat OB D DA cl TY PHI sz raw pu T0 H0 env0 nL st T H locs env ls stk) {S : List Nat} {k : List Value} (hS : z_stk env S k) {i d : Nat} {ls' : Array Slot} (hl : z_ls nL ls' env ((i, d) :: (z_L st).filter (fun q => !(Nat.beq q.1 i)))) :
    z_sat OB D DA cl TY PHI sz raw pu T0 H0 env0 nL (z_stL st S i d) T H locs env ls' k := by
  obtain ⟨h1, h2, h3, h4, h5⟩ := h
  exact ⟨h1, h2, hl, hS, h5⟩
end ZSAT
end
section
/-! Instructions that leave the heap as it is. -/
def z_Good (p : Program) (l : Launch) (e : Env) (R : Room) (s : State) (m : MethodId) (args : Array Value) (below : List Frame) (meth : Method) (c : Code) (Q : State → Prop) (OB : Nat → Nat) (D : va_G) (DA : Nat → ClassId) (cl : List vw_C) (TY : List zTy) (PHI : List (List Nat)) (sz : Nat) (raw : Option Nat) (pu : Bool) (T0 : zTp) (H0 : Heap) (env0 : List Value) (nL : Nat) (good : Nat → zS → Prop) : Prop :=
  ∀ pc st, good pc st ↔ ∀ T H locs env ls stk, z_sat OB D DA cl TY PHI sz raw pu T0 H0 env0 nL st T H locs env ls stk → W p l e R s m args below meth c H locs (z_C st).1 (z_C st).2 Q (F0 m pc ls stk)
def z_noov (lo hi : Int) : Bool := z_ile (-2147483648) lo && z_ile hi 2147483647
def z_iconst (st : zS) (n : Int) : Option zS := cond (z_noov n n) (some (z_psh st (z_S st) (.inl (n, n)) [])) none
def z_bip (st : zS) (n : Int) : Option zS := cond (z_ile (-128) n && z_ile n 127) (some (z_psh st (z_S st) (.inl (n, n)) [])) none
def z_sip (st : zS) (n : Int) : Option zS := cond (z_ile (-32768) n && z_ile n 32767) (some (z_psh st (z_S st) (.inl (n, n)) [])) none
def z_iload (st : zS) (i : Nat) : Option zS := match z_loc (z_L st) i with
  | some d => (match z_get (z_V st) d with
    | some (.inl _) => some (z_stS st (d :: z_S st))
    | _ => none)
  | none => none
/-- a reference -/
def z_isr (st : zS) (d : Nat) : Bool := match z_get (z_V st) d with
  | some (.inr (.inl _)) => true
  | some (.inr (.inr (_ + 1))) => true
  | some _ => false
  | none => (z_X st).any (fun q => Nat.beq q.1 d)
def z_isi (st : zS) (d : Nat) : Bool := match z_get (z_V st) d with
  | some (.inl _) => true
  | _ => false
def z_aload (st : zS) (i : Nat) : Option zS := match z_loc (z_L st) i with
  | some d => cond (z_isr st d) (some (z_stS st (d :: z_S st))) none
  | none => none
def z_istore (nL : Nat) (st : zS) (i : Nat) : Option zS := match z_S st with
  | d :: S => cond (z_isi st d && Nat.blt i nL) (some (z_stL st S i d)) none
  | _ => none
def z_astore (nL : Nat) (st : zS) (i : Nat) : Option zS := match z_S st with
  | d :: S => cond (z_isr st d && Nat.blt i nL) (some (z_stL st S i d)) none
  | _ => none
def z_shc (st : zS) (a : zR) (x : Nat) (k : Int) : List (Nat × Nat × Int) := cond (z_noov (a.1 + k) (a.2 + k)) [(z_n st, x, k), (x, z_n st, -k)] []
def z_iinc (nL : Nat) (st : zS) (i : Nat) (k : Int) : Option zS := match z_loc (z_L st) i with
  | some d => (match z_get (z_V st) d with
    | some (.inl a) => cond (z_noov k k && Nat.blt i nL) (some (z_stL (z_psh st (z_S st) (.inl (z_add a (k, k))) (z_shc st a d k)) (z_S st) i (z_n st))) none
    | _ => none)
  | none => none
def z_bin (f : zR → zR → zR) (st : zS) : Option zS := match z_S st with
  | y :: x :: S => (match z_get (z_V st) x, z_get (z_V st) y with
    | some (.inl a), some (.inl b) => some (z_psh st S (.inl (f a b)) [])
    | _, _ => none)
  | _ => none
/-- as z_bin, where the second is not 0 -/
def z_bin0 (f : zR → zR → zR) (st : zS) : Option zS := match z_S st with
  | y :: x :: S => (match z_get (z_V st) x, z_get (z_V st) y with
    | some (.inl a), some (.inl b) => cond (z_ile 1 b.1 || z_ile b.2 (-1)) (some (z_psh st S (.inl (f a b)) [])) none
    | _, _ => none)
  | _ => none
def z_iadd (st : zS) : Option zS := match z_S st with
  | y :: x :: S => (match z_get (z_V st) x, z_get (z_V st) y with
    | some (.inl a), some (.inl b) => some (z_psh st S (.inl (z_add a b)) (cond (z_ile b.2 b.1) (z_shc st a x b.1) (cond (z_ile a.2 a.1) (z_shc st b y a.1) [])))
    | _, _ => none)
  | _ => none
def z_lb1 (R : List (Nat × Nat × Int)) (x y : Nat) (lo : Int) : Int := match z_lbs R 2 x y with
  | some k => z_max lo k
  | none => lo
def z_isub (st : zS) : Option zS := match z_S st with
  | y :: x :: S => (match z_get (z_V st) x, z_get (z_V st) y with
    | some (.inl a), some (.inl b) => some (z_psh st S (.inl (cond (z_noov (a.1 - b.2) (a.2 - b.1)) (z_lb1 (z_R st) x y (a.1 - b.2), -(z_lb1 (z_R st) y x (b.1 - a.2))) (z_sub a b))) (cond (z_ile b.2 b.1) (z_shc st a x (-b.1)) []))
    | _, _ => none)
  | _ => none
def z_un (f : zR → zR) (st : zS) : Option zS := match z_S st with
  | x :: S => (match z_get (z_V st) x with
    | some (.inl a) => some (z_psh st S (.inl (f a)) [])
    | _ => none)
  | _ => none
def z_dup (st : zS) : Option zS := match z_S st with
  | x :: S => cond (z_isi st x || z_isr st x) (some (z_stS st (x :: x :: S))) none
  | _ => none
def z_dupx1 (st : zS) : Option zS := match z_S st with
  | x :: y :: S => cond ((z_isi st x || z_isr st x) && (z_isi st y || z_isr st y)) (some (z_stS st (x :: y :: x :: S))) none
  | _ => none
def z_dup2 (st : zS) : Option zS := match z_S st with
  | x :: y :: S => cond ((z_isi st x || z_isr st x) && (z_isi st y || z_isr st y)) (some (z_stS st (x :: y :: x :: y :: S))) none
  | _ => none
def z_pop (st : zS) : Option zS := match z_S st with
  | x :: S => cond (z_isi st x || z_isr st x) (some (z_stS st S)) none
  | _ => none
section ZPURE
variable {p : Program} {l : Launch} {e : Env} {R : Room} {s : State} {m : MethodId} {args : Array Value} {below : List Frame} {meth : Method} {c : Code} {Q : State → Prop} {cc : ByteArray} {pc : Nat}
variable {OB : Nat → Nat} {D : va_G} {DA : Nat → ClassId} {cl : List vw_C} {TY : List zTy} {PHI : List (List Nat)} {sz : Nat} {raw : Option Nat} {pu : Bool} {T0 : zTp} {H0 : Heap} {env0 : List Value} {nL : Nat} {st st' : zS} {good : Nat → zS → Prop}
theorem z_noov_ok {a b : Int} (h : z_noov a b = true) : -2147483648 ≤ a ∧ b ≤ 2147483647 := by
  unfold z_noov at h
  rw [Bool.and_eq_true] at h
  exact ⟨z_ile_ok h.1, z_ile_ok h.2⟩
theorem z_cond {α : Type} {b : Bool} {x : α} {y : α} (h : cond b (some x) none = some y) : b = true ∧ x = y := by
  cases b with
  | true => exact ⟨rfl, Option.some.inj h⟩
  | false => cases h
theorem z_r_iconst (hg : z_Good p l e R s m args below meth c Q OB D DA cl TY PHI sz raw pu T0 H0 env0 nL good) (hx : p.tables.exec = Jvm.exec) (hb : c.code = cc) {n : Int} (hd : decode cc pc = .ok (.iconst n, 1)) (h : z_iconst st n = some st') (k : good (pc + 1) st') : good pc st := by
  obtain ⟨h1, rfl⟩ := z_cond h
  obtain ⟨q1, q2⟩ := z_noov_ok h1
  refine (hg _ _).mpr fun T H locs env ls stk hs => ?_
  have hv : (Int32.ofInt n).toInt = n := Int32.toInt_ofInt_of_le (by omega) (by omega)
  exact lv_iconst hx hb hd rfl ((hg _ _).mp k T H locs _ ls _ (z_sat_psh hs hs.2.2.2.1 (c := .inl (n, n)) (v := .int (Int32.ofInt n)) ⟨_, rfl, by rw [z_in, hv]; exact ⟨Int.le_refl _, Int.le_refl _⟩⟩ (fun q hq => absurd hq List.not_mem_nil)))
theorem z_r_bip (hg : z_Good p l e R s m args below meth c Q OB D DA cl TY PHI sz raw pu T0 H0 env0 nL good) (hx : p.tables.exec = Jvm.exec) (hb : c.code = cc) {n : Int} (hd : decode cc pc = .ok (.bipush n, 2)) (h : z_bip st n = some st') (k : good (pc + 2) st') : good pc st := by
  obtain ⟨h1, rfl⟩ := z_cond h
  rw [Bool.and_eq_true] at h1
  have q1 := z_ile_ok h1.1
  have q2 := z_ile_ok h1.2
  refine (hg _ _).mpr fun T H locs env ls stk hs => ?_
  have hv : ((Int8.ofInt n).toInt32).toInt = n := by rw [Int8.toInt_toInt32]; exact Int8.toInt_ofInt_of_le (by omega) (by omega)
  exact lv_bipush hx hb hd rfl ((hg _ _).mp k T H locs _ ls _ (z_sat_psh hs hs.2.2.2.1 (c := .inl (n, n)) (v := .int ((Int8.ofInt n).toInt32)) ⟨_, rfl, by rw [z_in, hv]; exact ⟨Int.le_refl _, Int.le_refl _⟩⟩ (fun q hq => absurd hq List.not_mem_nil)))
theorem z_r_sip (hg : z_Good p l e R s m args below meth c Q OB D DA cl TY PHI sz raw pu T0 H0 env0 nL good) (hx : p.tables.exec = Jvm.exec) (hb : c.code = cc) {n : Int} (hd : decode cc pc = .ok (.sipush n, 3)) (h : z_sip st n = some st') (k : good (pc + 3) st') : good pc st := by
  obtain ⟨h1, rfl⟩ := z_cond h
  rw [Bool.and_eq_true] at h1
  have q1 := z_ile_ok h1.1
  have q2 := z_ile_ok h1.2
  refine (hg _ _).mpr fun T H locs env ls stk hs => ?_
  have hv : ((Int16.ofInt n).toInt32).toInt = n := by rw [Int16.toInt_toInt32]; exact Int16.toInt_ofInt_of_le (by omega) (by omega)
  exact lv_sipush hx hb hd rfl ((hg _ _).mp k T H locs _ ls _ (z_sat_psh hs hs.2.2.2.1 (c := .inl (n, n)) (v := .int ((Int16.ofInt n).toInt32)) ⟨_, rfl, by rw [z_in, hv]; exact ⟨Int.le_refl _, Int.le_refl _⟩⟩ (fun q hq => absurd hq List.not_mem_nil)))
theorem z_r_ldc (hg : z_Good p l e R s m args below meth c Q OB D DA cl TY PHI sz raw pu T0 H0 env0 nL good) (hx : p.tables.exec = Jvm.exec) (hb : c.code = cc) {own : String} {i : Nat} {v : Int32} (hown : s.vm.findClass own = some m.cls) (hc : (Jvm.Cond.constant own i v).before args s = true) (hd : decode cc pc = .ok (.ldc i, 2)) (h : z_iconst st v.toInt = some st') (k : good (pc + 2) st') : good pc st := by
  obtain ⟨h1, rfl⟩ := z_cond h
  refine (hg _ _).mpr fun T H locs env ls stk hs => ?_
  exact lv_ldc hx hb hown hc hd ((hg _ _).mp k T H locs _ ls _ (z_sat_psh hs hs.2.2.2.1 (c := .inl (v.toInt, v.toInt)) (v := .int v) ⟨_, rfl, Int.le_refl _, Int.le_refl _⟩ (fun q hq => absurd hq List.not_mem_nil)))
theorem z_r_ldcw (hg : z_Good p l e R s m args below meth c Q OB D DA cl TY PHI sz raw pu T0 H0 env0 nL good) (hx : p.tables.exec = Jvm.exec) (hb : c.code = cc) {own : String} {i : Nat} {v : Int32} (hown : s.vm.findClass own = some m.cls) (hc : (Jvm.Cond.constant own i v).before args s = true) (hd : decode cc pc = .ok (.ldc_w i, 3)) (h : z_iconst st v.toInt = some st') (k : good (pc + 3) st') : good pc st := by
  obtain ⟨h1, rfl⟩ := z_cond h
  refine (hg _ _).mpr fun T H locs env ls stk hs => ?_
  exact lv_ldcw hx hb hown hc hd ((hg _ _).mp k T H locs _ ls _ (z_sat_psh hs hs.2.2.2.1 (c := .inl (v.toInt, v.toInt)) (v := .int v) ⟨_, rfl, Int.le_refl _, Int.le_refl _⟩ (fun q hq => absurd hq List.not_mem_nil)))
theorem z_iload_ok {T : zTp} {H : Heap} {locs : List Loc} {env : List Value} {ls : Array Slot} {stk : List Value} {i : Nat} (h : z_iload st i = some st') (hs : z_sat OB D DA cl TY PHI sz raw pu T0 H0 env0 nL st T H locs env ls stk) : ∃ x : Int32, ls[i]? = some (.val (.int x)) ∧ z_C st' = z_C st ∧ z_sat OB D DA cl TY PHI sz raw pu T0 H0 env0 nL st' T H locs env ls (.int x :: stk) := by
  unfold z_iload at h
  split at h
  · rename_i d hd
    split at h
    · rename_i a ha
      cases h
      obtain ⟨v, e1, x, rfl, hx⟩ := z_get_ok hs.2.2.2.2.1 ha
      obtain ⟨lv, g1, g2, g3⟩ := hs.2.2.1
      obtain ⟨v', e2, hm⟩ := g3 _ (z_loc_mem hd)
      have : v' = .int x := Option.some.inj (e2.symm.trans e1)
      subst this
      exact ⟨x, g1.2.2 _ hm, rfl, z_sat_stS hs ⟨_, _, rfl, e1, hs.2.2.2.1⟩⟩
    · cases h
  · cases h
theorem z_isr_ok {T : zTp} {H : Heap} {locs : List Loc} {env : List Value} {ls : Array Slot} {stk : List Value} {d : Nat} (h : z_isr st d = true) (hs : z_sat OB D DA cl TY PHI sz raw pu T0 H0 env0 nL st T H locs env ls stk) : ∃ a : Nat, env[d]? = some (.ref a) := by
  unfold z_isr at h
  split at h
  · rename_i t ht
    obtain ⟨v, e1, a, rfl, ha⟩ := z_get_ok hs.2.2.2.2.1 ht
    exact ⟨a, e1⟩
  · rename_i k hk
    obtain ⟨v, e1, h1⟩ := z_get_ok hs.2.2.2.2.1 hk
    have h1 : v = .ref (OB (k + 1 - 1)) := h1
    exact ⟨_, by rw [e1, h1]⟩
  · cases h
  · obtain ⟨q, hq, hq2⟩ := List.any_eq_true.mp h
    obtain ⟨a, h1, _⟩ := z_fx_in hs.2.2.2.2.2.2.2.2.1 q hq
    rw [z_beq hq2] at h1
    exact ⟨a, h1⟩
theorem z_isi_ok {T : zTp} {H : Heap} {locs : List Loc} {env : List Value} {ls : Array Slot} {stk : List Value} {d : Nat} (h : z_isi st d = true) (hs : z_sat OB D DA cl TY PHI sz raw pu T0 H0 env0 nL st T H locs env ls stk) : ∃ x : Int32, env[d]? = some (.int x) := by
  unfold z_isi at h
  split at h
  · rename_i t ht
    obtain ⟨v, e1, x, rfl, hx⟩ := z_get_ok hs.2.2.2.2.1 ht
    exact ⟨x, e1⟩
  · cases h
theorem z_aload_ok {T : zTp} {H : Heap} {locs : List Loc} {env : List Value} {ls : Array Slot} {stk : List Value} {i : Nat} (h : z_aload st i = some st') (hs : z_sat OB D DA cl TY PHI sz raw pu T0 H0 env0 nL st T H locs env ls stk) : ∃ x : Nat, ls[i]? = some (.val (.ref x)) ∧ z_C st' = z_C st ∧ z_sat OB D DA cl TY PHI sz raw pu T0 H0 env0 nL st' T H locs env ls (.ref x :: stk) := by
  unfold z_aload at h
  split at h
  · rename_i d hd
    obtain ⟨h1, rfl⟩ := z_cond h
    obtain ⟨x, e1⟩ := z_isr_ok h1 hs
    obtain ⟨lv, g1, g2, g3⟩ := hs.2.2.1
    obtain ⟨v', e2, hm⟩ := g3 _ (z_loc_mem hd)
    have : v' = .ref x := Option.some.inj (e2.symm.trans e1)
    subst this
    exact ⟨x, g1.2.2 _ hm, rfl, z_sat_stS hs ⟨_, _, rfl, e1, hs.2.2.2.1⟩⟩
  · cases h
end ZPURE
end
section
/-! Rows of more instructions that leave the heap as it is. -/
section ZPURE2
variable {p : Program} {l : Launch} {e : Env} {R : Room} {s : State} {m : MethodId} {args : Array Value} {below : List Frame} {meth : Method} {c : Code} {Q : State → Prop} {cc : ByteArray} {pc : Nat}
variable {OB : Nat → Nat} {D : va_G} {DA : Nat → ClassId} {cl : List vw_C} {TY : List zTy} {PHI : List (List Nat)} {sz : Nat} {raw : Option Nat} {pu : Bool} {T0 : zTp} {H0 : Heap} {env0 : List Value} {nL : Nat} {st st' : zS} {good : Nat → zS → Prop}
theorem z_vi {OB : Nat → Nat} {T : zTp} {r : zR} {x : Int32} (h : z_in r x) : z_v OB T (.inl r) (.int x) := ⟨_, rfl, h⟩
theorem z_r_iload (hg : z_Good p l e R s m args below meth c Q OB D DA cl TY PHI sz raw pu T0 H0 env0 nL good) (hx : p.tables.exec = Jvm.exec) (hb : c.code = cc) {i : Nat} (hd : decode cc pc = .ok (.iload i, 2)) (h : z_iload st i = some st') (k : good (pc + 2) st') : good pc st := by
  refine (hg _ _).mpr fun T H locs env ls stk hs => ?_
  obtain ⟨x, h1, h2, h3⟩ := z_iload_ok h hs
  have kk := (hg _ _).mp k T H locs _ ls _ h3
  rw [h2] at kk
  exact lv_iload hx hb hd h1 kk
theorem z_r_iload_n (hg : z_Good p l e R s m args below meth c Q OB D DA cl TY PHI sz raw pu T0 H0 env0 nL good) (hx : p.tables.exec = Jvm.exec) (hb : c.code = cc) {i : Fin 4} (hd : decode cc pc = .ok (.iload_n i, 1)) (h : z_iload st i.val = some st') (k : good (pc + 1) st') : good pc st := by
  refine (hg _ _).mpr fun T H locs env ls stk hs => ?_
  obtain ⟨x, h1, h2, h3⟩ := z_iload_ok h hs
  have kk := (hg _ _).mp k T H locs _ ls _ h3
  rw [h2] at kk
  exact lv_iload_n hx hb hd rfl h1 kk
theorem z_r_aload (hg : z_Good p l e R s m args below meth c Q OB D DA cl TY PHI sz raw pu T0 H0 env0 nL good) (hx : p.tables.exec = Jvm.exec) (hb : c.code = cc) {i : Nat} (hd : decode cc pc = .ok (.aload i, 2)) (h : z_aload st i = some st') (k : good (pc + 2) st') : good pc st := by
  refine (hg _ _).mpr fun T H locs env ls stk hs => ?_
  obtain ⟨x, h1, h2, h3⟩ := z_aload_ok h hs
  have kk := (hg _ _).mp k T H locs _ ls _ h3
  rw [h2] at kk
  exact lv_aload hx hb hd h1 kk
theorem z_r_aload_n (hg : z_Good p l e R s m args below meth c Q OB D DA cl TY PHI sz raw pu T0 H0 env0 nL good) (hx : p.tables.exec = Jvm.exec) (hb : c.code = cc) {i : Fin 4} (hd : decode cc pc = .ok (.aload_n i, 1)) (h : z_aload st i.val = some st') (k : good (pc + 1) st') : good pc st := by
  refine (hg _ _).mpr fun T H locs env ls stk hs => ?_
  obtain ⟨x, h1, h2, h3⟩ := z_aload_ok h hs
  have kk := (hg _ _).mp k T H locs _ ls _ h3
  rw [h2] at kk
  exact lv_aload_n hx hb hd rfl h1 kk
theorem z_stk_cons {env : List Value} {d : Nat} {S : List Nat} {stk : List Value} {st : zS} (hS : z_S st = d :: S) (h : z_stk env (z_S st) stk) : ∃ v k, stk = v :: k ∧ env[d]? = some v ∧ z_stk env S k := by
  rw [hS] at h; exact h
theorem z_blt {a b : Nat} (h : Nat.blt a b = true) : a < b := by
  unfold Nat.blt at h
  exact Nat.le_of_ble_eq_true h
theorem z_istore_ok {T : zTp} {H : Heap} {locs : List Loc} {env : List Value} {ls : Array Slot} {stk : List Value} {i : Nat} (h : z_istore nL st i = some st') (hs : z_sat OB D DA cl TY PHI sz raw pu T0 H0 env0 nL st T H locs env ls stk) : ∃ (x : Int32) (k : List Value) (lv : List (Nat × Value)), stk = .int x :: k ∧ i < nL ∧ lv_has ls nL lv ∧ z_C st' = z_C st ∧ ∀ ls', lv_has ls' nL ((i, .int x) :: lv.filter (fun q => !(q.1 == i) && !(q.1 + 1 == i && q.2.category == 2))) → z_sat OB D DA cl TY PHI sz raw pu T0 H0 env0 nL st' T H locs env ls' k := by
  unfold z_istore at h
  split at h
  · rename_i d S hS
    obtain ⟨h1, rfl⟩ := z_cond h
    rw [Bool.and_eq_true] at h1
    obtain ⟨x, e1⟩ := z_isi_ok h1.1 hs
    obtain ⟨v, k, rfl, e2, hk⟩ := z_stk_cons hS hs.2.2.2.1
    have : v = .int x := Option.some.inj (e2.symm.trans e1)
    subst this
    obtain ⟨lv, g1, g2, g3⟩ := hs.2.2.1
    exact ⟨x, k, lv, rfl, z_blt h1.2, g1, rfl, fun ls' hl => z_sat_stL hs hk (z_ls_set g2 g3 e1 rfl hl)⟩
  · cases h
theorem z_astore_ok {T : zTp} {H : Heap} {locs : List Loc} {env : List Value} {ls : Array Slot} {stk : List Value} {i : Nat} (h : z_astore nL st i = some st') (hs : z_sat OB D DA cl TY PHI sz raw pu T0 H0 env0 nL st T H locs env ls stk) : ∃ (x : Nat) (k : List Value) (lv : List (Nat × Value)), stk = .ref x :: k ∧ i < nL ∧ lv_has ls nL lv ∧ z_C st' = z_C st ∧ ∀ ls', lv_has ls' nL ((i, .ref x) :: lv.filter (fun q => !(q.1 == i) && !(q.1 + 1 == i && q.2.category == 2))) → z_sat OB D DA cl TY PHI sz raw pu T0 H0 env0 nL st' T H locs env ls' k := by
  unfold z_astore at h
  split at h
  · rename_i d S hS
    obtain ⟨h1, rfl⟩ := z_cond h
    rw [Bool.and_eq_true] at h1
    obtain ⟨x, e1⟩ := z_isr_ok h1.1 hs
    obtain ⟨v, k, rfl, e2, hk⟩ := z_stk_cons hS hs.2.2.2.1
    have : v = .ref x := Option.some.inj (e2.symm.trans e1)
    subst this
    obtain ⟨lv, g1, g2, g3⟩ := hs.2.2.1
    exact ⟨x, k, lv, rfl, z_blt h1.2, g1, rfl, fun ls' hl => z_sat_stL hs hk (z_ls_set g2 g3 e1 rfl hl)⟩
  · cases h
theorem z_r_istore (hg : z_Good p l e R s m args below meth c Q OB D DA cl TY PHI sz raw pu T0 H0 env0 nL good) (hx : p.tables.exec = Jvm.exec) (hb : c.code = cc) {i : Nat} (hd : decode cc pc = .ok (.istore i, 2)) (h : z_istore nL st i = some st') (k : good (pc + 2) st') : good pc st := by
  refine (hg _ _).mpr fun T H locs env ls stk hs => ?_
  obtain ⟨x, k2, lv, rfl, h1, h2, h3, h4⟩ := z_istore_ok h hs
  refine lv_istore hx hb hd h2 h1 rfl fun ls' hl => ?_
  have kk := (hg _ _).mp k T H locs _ ls' _ (h4 ls' hl)
  rwa [h3] at kk
theorem z_r_istore_n (hg : z_Good p l e R s m args below meth c Q OB D DA cl TY PHI sz raw pu T0 H0 env0 nL good) (hx : p.tables.exec = Jvm.exec) (hb : c.code = cc) {i : Fin 4} (hd : decode cc pc = .ok (.istore_n i, 1)) (h : z_istore nL st i.val = some st') (k : good (pc + 1) st') : good pc st := by
  refine (hg _ _).mpr fun T H locs env ls stk hs => ?_
  obtain ⟨x, k2, lv, rfl, h1, h2, h3, h4⟩ := z_istore_ok h hs
  refine lv_istore_n hx hb hd rfl h2 h1 rfl fun ls' hl => ?_
  have kk := (hg _ _).mp k T H locs _ ls' _ (h4 ls' hl)
  rwa [h3] at kk
theorem z_r_astore (hg : z_Good p l e R s m args below meth c Q OB D DA cl TY PHI sz raw pu T0 H0 env0 nL good) (hx : p.tables.exec = Jvm.exec) (hb : c.code = cc) {i : Nat} (hd : decode cc pc = .ok (.astore i, 2)) (h : z_astore nL st i = some st') (k : good (pc + 2) st') : good pc st := by
  refine (hg _ _).mpr fun T H locs env ls stk hs => ?_
  obtain ⟨x, k2, lv, rfl, h1, h2, h3, h4⟩ := z_astore_ok h hs
  refine lv_astore hx hb hd h2 h1 rfl fun ls' hl => ?_
  have kk := (hg _ _).mp k T H locs _ ls' _ (h4 ls' hl)
  rwa [h3] at kk
theorem z_r_astore_n (hg : z_Good p l e R s m args below meth c Q OB D DA cl TY PHI sz raw pu T0 H0 env0 nL good) (hx : p.tables.exec = Jvm.exec) (hb : c.code = cc) {i : Fin 4} (hd : decode cc pc = .ok (.astore_n i, 1)) (h : z_astore nL st i.val = some st') (k : good (pc + 1) st') : good pc st := by
  refine (hg _ _).mpr fun T H locs env ls stk hs => ?_
  obtain ⟨x, k2, lv, rfl, h1, h2, h3, h4⟩ := z_astore_ok h hs
  refine lv_astore_n hx hb hd rfl h2 h1 rfl fun ls' hl => ?_
  have kk := (hg _ _).mp k T H locs _ ls' _ (h4 ls' hl)
  rwa [h3] at kk
/-- a sum with a constant, where nothing runs over -/
theorem z_shc_ok {env : List Value} {a : zR} {d : Nat} {k : Int} {x v : Int32} (hn : env.length = z_n st) (hd : env[d]? = some (.int x)) (hx : z_in a x) (hv : v.toInt = (x.toInt + k).bmod (2 ^ 32)) : z_fr (env ++ [.int v]) (z_shc st a d k) := by
  unfold z_shc
  cases hc : z_noov (a.1 + k) (a.2 + k) with
  | false => exact fun q hq => absurd hq List.not_mem_nil
  | true =>
    obtain ⟨h1, h2⟩ := z_noov_ok hc
    have e : v.toInt = x.toInt + k := by
      rw [hv]; exact z_bmod (by have := hx.1; omega) (by have := hx.2; omega)
    have e1 : (env ++ [.int v])[z_n st]? = some (.int v) := by rw [← hn]; simp
    intro q hq
    rcases List.mem_cons.mp hq with rfl | hq
    · exact ⟨x, v, e1, z_app hd, by show x.toInt + k ≤ _; omega⟩
    · rw [List.mem_singleton.mp hq]
      exact ⟨v, x, z_app hd, e1, by show v.toInt + -k ≤ _; omega⟩
theorem z_r_iinc (hg : z_Good p l e R s m args below meth c Q OB D DA cl TY PHI sz raw pu T0 H0 env0 nL good) (hx : p.tables.exec = Jvm.exec) (hb : c.code = cc) {i : Nat} {n : Int} (hd : decode cc pc = .ok (.iinc i n, 3)) (h : z_iinc nL st i n = some st') (k : good (pc + 3) st') : good pc st := by
  refine (hg _ _).mpr fun T H locs env ls stk hs => ?_
  unfold z_iinc at h
  split at h
  · rename_i d hdl
    split at h
    · rename_i a ha
      obtain ⟨h1, rfl⟩ := z_cond h
      rw [Bool.and_eq_true] at h1
      obtain ⟨v, e1, x, rfl, hxa⟩ := z_get_ok hs.2.2.2.2.1 ha
      obtain ⟨lv, g1, g2, g3⟩ := hs.2.2.1
      obtain ⟨v', e2, hm⟩ := g3 _ (z_loc_mem hdl)
      have : v' = .int x := Option.some.inj (e2.symm.trans e1)
      subst this
      obtain ⟨j, hj⟩ := List.getElem?_of_mem hm
      have hn2 := z_noov_ok h1.1
      have hv : (Int32.ofInt n).toInt = n := Int32.toInt_ofInt_of_le (by omega) (by omega)
      have hin : z_in (z_add a (n, n)) (x + Int32.ofInt n) := z_add_ok hxa ⟨by rw [hv]; exact Int.le_refl _, by rw [hv]; exact Int.le_refl _⟩
      refine lv_iinc hx hb hd g1 hj rfl (z_blt h1.2) rfl fun ls' hl => ?_
      have hp := z_sat_psh hs hs.2.2.2.1 (c := .inl (z_add a (n, n))) (v := .int (x + Int32.ofInt n)) ⟨_, rfl, hin⟩ (rs := z_shc st a d n) (z_shc_ok hs.1 e1 hxa (by rw [Int32.toInt_add, hv]))
      refine (hg _ _).mp k T H locs _ ls' _ (z_sat_stL hp (z_stk_app hs.2.2.2.1) ?_)
      exact z_ls_set g2 (fun q hq => by obtain ⟨w, ew, mw⟩ := g3 q hq; exact ⟨w, z_app ew, mw⟩) (by rw [← hs.1]; simp) rfl hl
    · cases h
  · cases h
theorem z_bin_ok {T : zTp} {H : Heap} {locs : List Loc} {env : List Value} {ls : Array Slot} {stk : List Value} {f : zR → zR → zR} {op : Int32 → Int32 → Int32} (hf : ∀ a b x y, z_in a x → z_in b y → z_in (f a b) (op x y)) (h : z_bin f st = some st') (hs : z_sat OB D DA cl TY PHI sz raw pu T0 H0 env0 nL st T H locs env ls stk) : ∃ (x y : Int32) (k : List Value), stk = .int y :: .int x :: k ∧ z_C st' = z_C st ∧ z_sat OB D DA cl TY PHI sz raw pu T0 H0 env0 nL st' T H locs (env ++ [.int (op x y)]) ls (.int (op x y) :: k) := by
  unfold z_bin at h
  split at h
  · rename_i yy xx S hS
    split at h
    · rename_i a b ha hb2
      cases h
      obtain ⟨vy, k, rfl, e1, hk⟩ := z_stk_cons hS hs.2.2.2.1
      obtain ⟨vx, k2, rfl, e2, hk2⟩ := hk
      obtain ⟨v, e3, x, rfl, hxa⟩ := z_get_ok hs.2.2.2.2.1 ha
      obtain ⟨w, e4, y, rfl, hyb⟩ := z_get_ok hs.2.2.2.2.1 hb2
      have q1 : vx = .int x := Option.some.inj (e2.symm.trans e3)
      have q2 : vy = .int y := Option.some.inj (e1.symm.trans e4)
      subst q1; subst q2
      exact ⟨x, y, k2, rfl, rfl, z_sat_psh hs hk2 (z_vi (hf _ _ _ _ hxa hyb)) (fun q hq => absurd hq List.not_mem_nil)⟩
    · cases h
  · cases h
theorem z_bin0_ok {T : zTp} {H : Heap} {locs : List Loc} {env : List Value} {ls : Array Slot} {stk : List Value} {f : zR → zR → zR} {op : Int32 → Int32 → Int32} (hf : ∀ a b x y, z_in a x → z_in b y → z_in (f a b) (op x y)) (h : z_bin0 f st = some st') (hs : z_sat OB D DA cl TY PHI sz raw pu T0 H0 env0 nL st T H locs env ls stk) : ∃ (x y : Int32) (k : List Value), stk = .int y :: .int x :: k ∧ ¬ y = 0 ∧ z_C st' = z_C st ∧ z_sat OB D DA cl TY PHI sz raw pu T0 H0 env0 nL st' T H locs (env ++ [.int (op x y)]) ls (.int (op x y) :: k) := by
  unfold z_bin0 at h
  split at h
  · rename_i yy xx S hS
    split at h
    · rename_i a b ha hb2
      obtain ⟨h1, rfl⟩ := z_cond h
      obtain ⟨vy, k, rfl, e1, hk⟩ := z_stk_cons hS hs.2.2.2.1
      obtain ⟨vx, k2, rfl, e2, hk2⟩ := hk
      obtain ⟨v, e3, x, rfl, hxa⟩ := z_get_ok hs.2.2.2.2.1 ha
      obtain ⟨w, e4, y, rfl, hyb⟩ := z_get_ok hs.2.2.2.2.1 hb2
      have q1 : vx = .int x := Option.some.inj (e2.symm.trans e3)
      have q2 : vy = .int y := Option.some.inj (e1.symm.trans e4)
      subst q1; subst q2
      refine ⟨x, y, k2, rfl, ?_, rfl, z_sat_psh hs hk2 (z_vi (hf _ _ _ _ hxa hyb)) (fun q hq => absurd hq List.not_mem_nil)⟩
      intro hy0
      have hz : y.toInt = 0 := by rw [hy0]; rfl
      rw [Bool.or_eq_true] at h1
      rcases h1 with h1 | h1
      · have := z_ile_ok h1; have := hyb.1; omega
      · have := z_ile_ok h1; have := hyb.2; omega
    · cases h
  · cases h
theorem z_un_ok {T : zTp} {H : Heap} {locs : List Loc} {env : List Value} {ls : Array Slot} {stk : List Value} {f : zR → zR} {op : Int32 → Int32} (hf : ∀ a x, z_in a x → z_in (f a) (op x)) (h : z_un f st = some st') (hs : z_sat OB D DA cl TY PHI sz raw pu T0 H0 env0 nL st T H locs env ls stk) : ∃ (x : Int32) (k : List Value), stk = .int x :: k ∧ z_C st' = z_C st ∧ z_sat OB D DA cl TY PHI sz raw pu T0 H0 env0 nL st' T H locs (env ++ [.int (op x)]) ls (.int (op x) :: k) := by
  unfold z_un at h
  split at h
  · rename_i xx S hS
    split at h
    · rename_i a ha
      cases h
      obtain ⟨vx, k2, rfl, e2, hk2⟩ := z_stk_cons hS hs.2.2.2.1
      obtain ⟨v, e3, x, rfl, hxa⟩ := z_get_ok hs.2.2.2.2.1 ha
      have q1 : vx = .int x := Option.some.inj (e2.symm.trans e3)
      subst q1
      exact ⟨x, k2, rfl, rfl, z_sat_psh hs hk2 (z_vi (hf _ _ hxa)) (fun q hq => absurd hq List.not_mem_nil)⟩
    · cases h
  · cases h
theorem z_iadd_ok {T : zTp} {H : Heap} {locs : List Loc} {env : List Value} {ls : Array Slot} {stk : List Value} (h : z_iadd st = some st') (hs : z_sat OB D DA cl TY PHI sz raw pu T0 H0 env0 nL st T H locs env ls stk) : ∃ (x y : Int32) (k : List Value), stk = .int y :: .int x :: k ∧ z_C st' = z_C st ∧ z_sat OB D DA cl TY PHI sz raw pu T0 H0 env0 nL st' T H locs (env ++ [.int (x + y)]) ls (.int (x + y) :: k) := by
  unfold z_iadd at h
  split at h
  · rename_i yy xx S hS
    split at h
    · rename_i a b ha hb2
      cases h
      obtain ⟨vy, k, rfl, e1, hk⟩ := z_stk_cons hS hs.2.2.2.1
      obtain ⟨vx, k2, rfl, e2, hk2⟩ := hk
      obtain ⟨v, e3, x, rfl, hxa⟩ := z_get_ok hs.2.2.2.2.1 ha
      obtain ⟨w, e4, y, rfl, hyb⟩ := z_get_ok hs.2.2.2.2.1 hb2
      have q1 : vx = .int x := Option.some.inj (e2.symm.trans e3)
      have q2 : vy = .int y := Option.some.inj (e1.symm.trans e4)
      subst q1; subst q2
      refine ⟨x, y, k2, rfl, rfl, z_sat_psh hs hk2 (z_vi (z_add_ok hxa hyb)) ?_⟩
      cases hc : z_ile b.2 b.1 with
      | true =>
        have hy : y.toInt = b.1 := by have := z_ile_ok hc; have := hyb.1; have := hyb.2; omega
        exact z_shc_ok hs.1 e3 hxa (by rw [Int32.toInt_add, hy])
      | false =>
        cases hc2 : z_ile a.2 a.1 with
        | true =>
          have hy : x.toInt = a.1 := by have := z_ile_ok hc2; have := hxa.1; have := hxa.2; omega
          exact z_shc_ok hs.1 e4 hyb (by rw [Int32.toInt_add, hy, Int.add_comm])
        | false => exact fun q hq => absurd hq List.not_mem_nil
    · cases h
  · cases h
theorem z_lb1_ok {env : List Value} {Rr : List (Nat × Nat × Int)} (hr : z_fr env Rr) {x y : Nat} {vx vy : Int32} {lo : Int} (h1 : env[x]? = some (.int vx)) (h2 : env[y]? = some (.int vy)) (hlo : lo ≤ vx.toInt - vy.toInt) : z_lb1 Rr x y lo ≤ vx.toInt - vy.toInt := by
  unfold z_lb1
  split
  · rename_i k hk
    obtain ⟨v, e1, e2⟩ := z_lbs_ok hr hk h1
    have : v = vy := by have := e1.symm.trans h2; cases this; rfl
    subst this
    unfold z_max
    split <;> omega
  · exact hlo
theorem z_isub_ok {T : zTp} {H : Heap} {locs : List Loc} {env : List Value} {ls : Array Slot} {stk : List Value} (h : z_isub st = some st') (hs : z_sat OB D DA cl TY PHI sz raw pu T0 H0 env0 nL st T H locs env ls stk) : ∃ (x y : Int32) (k : List Value), stk = .int y :: .int x :: k ∧ z_C st' = z_C st ∧ z_sat OB D DA cl TY PHI sz raw pu T0 H0 env0 nL st' T H locs (env ++ [.int (x - y)]) ls (.int (x - y) :: k) := by
  unfold z_isub at h
  split at h
  · rename_i yy xx S hS
    split at h
    · rename_i a b ha hb2
      cases h
      obtain ⟨vy, k, rfl, e1, hk⟩ := z_stk_cons hS hs.2.2.2.1
      obtain ⟨vx, k2, rfl, e2, hk2⟩ := hk
      obtain ⟨v, e3, x, rfl, hxa⟩ := z_get_ok hs.2.2.2.2.1 ha
      obtain ⟨w, e4, y, rfl, hyb⟩ := z_get_ok hs.2.2.2.2.1 hb2
      have q1 : vx = .int x := Option.some.inj (e2.symm.trans e3)
      have q2 : vy = .int y := Option.some.inj (e1.symm.trans e4)
      subst q1; subst q2
      have hr := hs.2.2.2.2.2.2.2.1
      refine ⟨x, y, k2, rfl, rfl, z_sat_psh hs hk2 (z_vi ?_) ?_⟩
      · cases hc : z_noov (a.1 - b.2) (a.2 - b.1) with
        | false => exact z_sub_ok hxa hyb
        | true =>
          obtain ⟨n1, n2⟩ := z_noov_ok hc
          obtain ⟨a1, a2⟩ := hxa
          obtain ⟨b1, b2⟩ := hyb
          have ev : (x - y).toInt = x.toInt - y.toInt := by rw [Int32.toInt_sub]; exact z_bmod (by omega) (by omega)
          have l1 := z_lb1_ok hr e3 e4 (lo := a.1 - b.2) (by omega)
          have l2 := z_lb1_ok hr e4 e3 (lo := b.1 - a.2) (by omega)
          exact ⟨by rw [ev]; exact l1, by rw [ev]; show _ ≤ -(z_lb1 (z_R st) yy xx (b.1 - a.2)); omega⟩
      · cases hc : z_ile b.2 b.1 with
        | true =>
          have hy : y.toInt = b.1 := by have := z_ile_ok hc; have := hyb.1; have := hyb.2; omega
          exact z_shc_ok hs.1 e3 hxa (by rw [Int32.toInt_sub, hy]; rfl)
        | false => exact fun q hq => absurd hq List.not_mem_nil
    · cases h
  · cases h
theorem z_cat_ok {T : zTp} {H : Heap} {locs : List Loc} {env : List Value} {ls : Array Slot} {stk : List Value} {d : Nat} {v : Value} (h : (z_isi st d || z_isr st d) = true) (hs : z_sat OB D DA cl TY PHI sz raw pu T0 H0 env0 nL st T H locs env ls stk) (hv : env[d]? = some v) : v.category = 1 := by
  rw [Bool.or_eq_true] at h
  rcases h with h | h
  · obtain ⟨x, e1⟩ := z_isi_ok h hs
    rw [hv] at e1; cases e1; rfl
  · obtain ⟨x, e1⟩ := z_isr_ok h hs
    rw [hv] at e1; cases e1; rfl
theorem z_r_dup (hg : z_Good p l e R s m args below meth c Q OB D DA cl TY PHI sz raw pu T0 H0 env0 nL good) (hx : p.tables.exec = Jvm.exec) (hb : c.code = cc) (hd : decode cc pc = .ok (.dup, 1)) (h : z_dup st = some st') (k : good (pc + 1) st') : good pc st := by
  refine (hg _ _).mpr fun T H locs env ls stk hs => ?_
  unfold z_dup at h
  split at h
  · rename_i x S hS
    obtain ⟨h1, rfl⟩ := z_cond h
    obtain ⟨v, k2, rfl, e1, hk⟩ := z_stk_cons hS hs.2.2.2.1
    exact lv_dup hx hb hd (z_cat_ok h1 hs e1) ((hg _ _).mp k T H locs _ ls _ (z_sat_stS hs ⟨_, _, rfl, e1, _, _, rfl, e1, hk⟩))
  · cases h
theorem z_r_dupx1 (hg : z_Good p l e R s m args below meth c Q OB D DA cl TY PHI sz raw pu T0 H0 env0 nL good) (hx : p.tables.exec = Jvm.exec) (hb : c.code = cc) (hd : decode cc pc = .ok (.dup_x1, 1)) (h : z_dupx1 st = some st') (k : good (pc + 1) st') : good pc st := by
  refine (hg _ _).mpr fun T H locs env ls stk hs => ?_
  unfold z_dupx1 at h
  split at h
  · rename_i x y S hS
    obtain ⟨h1, rfl⟩ := z_cond h
    rw [Bool.and_eq_true] at h1
    obtain ⟨v, k2, rfl, e1, w, k3, rfl, e2, hk⟩ := z_stk_cons hS hs.2.2.2.1
    exact lv_dup_x1 hx hb hd (z_cat_ok h1.1 hs e1) (z_cat_ok h1.2 hs e2) ((hg _ _).mp k T H locs _ ls _ (z_sat_stS hs ⟨_, _, rfl, e1, _, _, rfl, e2, _, _, rfl, e1, hk⟩))
  · cases h
theorem z_r_dup2 (hg : z_Good p l e R s m args below meth c Q OB D DA cl TY PHI sz raw pu T0 H0 env0 nL good) (hx : p.tables.exec = Jvm.exec) (hb : c.code = cc) (hd : decode cc pc = .ok (.dup2, 1)) (h : z_dup2 st = some st') (k : good (pc + 1) st') : good pc st := by
  refine (hg _ _).mpr fun T H locs env ls stk hs => ?_
  unfold z_dup2 at h
  split at h
  · rename_i x y S hS
    obtain ⟨h1, rfl⟩ := z_cond h
    rw [Bool.and_eq_true] at h1
    obtain ⟨v, k2, rfl, e1, w, k3, rfl, e2, hk⟩ := z_stk_cons hS hs.2.2.2.1
    exact lv_dup2_11 hx hb hd (z_cat_ok h1.1 hs e1) (z_cat_ok h1.2 hs e2) ((hg _ _).mp k T H locs _ ls _ (z_sat_stS hs ⟨_, _, rfl, e1, _, _, rfl, e2, _, _, rfl, e1, _, _, rfl, e2, hk⟩))
  · cases h
theorem z_r_pop (hg : z_Good p l e R s m args below meth c Q OB D DA cl TY PHI sz raw pu T0 H0 env0 nL good) (hx : p.tables.exec = Jvm.exec) (hb : c.code = cc) (hd : decode cc pc = .ok (.pop, 1)) (h : z_pop st = some st') (k : good (pc + 1) st') : good pc st := by
  refine (hg _ _).mpr fun T H locs env ls stk hs => ?_
  unfold z_pop at h
  split at h
  · rename_i x S hS
    obtain ⟨h1, rfl⟩ := z_cond h
    obtain ⟨v, k2, rfl, e1, hk⟩ := z_stk_cons hS hs.2.2.2.1
    exact lv_pop hx hb hd (z_cat_ok h1 hs e1) ((hg _ _).mp k T H locs _ ls _ (z_sat_stS hs hk))
  · cases h
end ZPURE2
end
section
/-! Branches. -/
abbrev zC : Type := Jvm.ClassFile.Cond
def z_rel (k : zC) (x y : Int) : Prop := match k with
  | .eq => x = y
  | .ne => x ≠ y
  | .lt => x < y
  | .ge => y ≤ x
  | .gt => y < x
  | .le => x ≤ y
def z_not (k : zC) : zC := match k with
  | .eq => .ne
  | .ne => .eq
  | .lt => .ge
  | .ge => .lt
  | .gt => .le
  | .le => .gt
def z_swp (k : zC) : zC := match k with
  | .eq => .eq
  | .ne => .ne
  | .lt => .gt
  | .ge => .le
  | .gt => .lt
  | .le => .ge
theorem z_rel_not {k : zC} {x y : Int} (h : ¬ z_rel k x y) : z_rel (z_not k) x y := by
  cases k <;> simp only [z_rel, z_not, ne_eq, Classical.not_not] at * <;> omega
theorem z_rel_swp {k : zC} {x y : Int} (h : z_rel k x y) : z_rel (z_swp k) y x := by
  cases k <;> simp only [z_rel, z_swp, ne_eq] at * <;> omega
def z_rf (k : zC) (a b : zR) : zR := match k with
  | .eq => (z_max a.1 b.1, z_min a.2 b.2)
  | .ne => (cond (z_ile b.2 b.1 && z_ile a.1 b.1 && z_ile b.1 a.1) (a.1 + 1) a.1, cond (z_ile b.2 b.1 && z_ile a.2 b.1 && z_ile b.1 a.2) (a.2 - 1) a.2)
  | .lt => (a.1, z_min a.2 (b.2 - 1))
  | .ge => (z_max a.1 b.1, a.2)
  | .gt => (z_max a.1 (b.1 + 1), a.2)
  | .le => (a.1, z_min a.2 b.2)
theorem z_min_ge {a b x : Int} (h1 : x ≤ a) (h2 : x ≤ b) : x ≤ z_min a b := by unfold z_min; split <;> omega
theorem z_max_le {a b x : Int} (h1 : a ≤ x) (h2 : b ≤ x) : z_max a b ≤ x := by unfold z_max; split <;> omega
theorem z_rf_ok {k : zC} {a b : zR} {x y : Int32} (hx : z_in a x) (hy : z_in b y) (h : z_rel k x.toInt y.toInt) : z_in (z_rf k a b) x := by
  obtain ⟨x1, x2⟩ := hx
  obtain ⟨y1, y2⟩ := hy
  cases k <;> simp only [z_rel] at h
  · exact ⟨z_max_le x1 (by omega), z_min_ge x2 (by omega)⟩
  · refine ⟨?_, ?_⟩
    · show cond _ _ _ ≤ _
      cases hc : z_ile b.2 b.1 && z_ile a.1 b.1 && z_ile b.1 a.1 with
      | false => exact x1
      | true =>
        simp only [Bool.and_eq_true] at hc
        have := z_ile_ok hc.1.1; have := z_ile_ok hc.1.2; have := z_ile_ok hc.2
        show a.1 + 1 ≤ _
        omega
    · show _ ≤ cond _ _ _
      cases hc : z_ile b.2 b.1 && z_ile a.2 b.1 && z_ile b.1 a.2 with
      | false => exact x2
      | true =>
        simp only [Bool.and_eq_true] at hc
        have := z_ile_ok hc.1.1; have := z_ile_ok hc.1.2; have := z_ile_ok hc.2
        show _ ≤ a.2 - 1
        omega
  · exact ⟨x1, z_min_ge x2 (by omega)⟩
  · exact ⟨z_max_le x1 (by omega), x2⟩
  · exact ⟨z_max_le x1 (by omega), x2⟩
  · exact ⟨x1, z_min_ge x2 (by omega)⟩
def z_rr (k : zC) (x y : Nat) : List (Nat × Nat × Int) := match k with
  | .eq => [(x, y, 0), (y, x, 0)]
  | .ne => []
  | .lt => [(y, x, 1)]
  | .ge => [(x, y, 0)]
  | .gt => [(x, y, 1)]
  | .le => [(y, x, 0)]
theorem z_rr_ok {env : List Value} {k : zC} {x y : Nat} {vx vy : Int32} (h1 : env[x]? = some (.int vx)) (h2 : env[y]? = some (.int vy)) (h : z_rel k vx.toInt vy.toInt) : z_fr env (z_rr k x y) := by
  intro q hq
  cases k <;> simp only [z_rr, z_rel, List.mem_cons, List.not_mem_nil, or_false, false_or] at hq h
  · rcases hq with rfl | rfl
    · exact ⟨vy, vx, h1, h2, by show vy.toInt + 0 ≤ _; omega⟩
    · exact ⟨vx, vy, h2, h1, by show vx.toInt + 0 ≤ _; omega⟩
  · subst hq; exact ⟨vx, vy, h2, h1, by show vx.toInt + 1 ≤ _; omega⟩
  · subst hq; exact ⟨vy, vx, h1, h2, by show vy.toInt + 0 ≤ _; omega⟩
  · subst hq; exact ⟨vy, vx, h1, h2, by show vy.toInt + 1 ≤ _; omega⟩
  · subst hq; exact ⟨vx, vy, h2, h1, by show vx.toInt + 0 ≤ _; omega⟩
/-- known to be above by so much at least -/
def z_kn (R : List (Nat × Nat × Int)) (x y : Nat) (n : Int) : Bool := match z_lbs R 2 x y with
  | some k => z_ile n k
  | none => false
theorem z_kn_ok {env : List Value} {Rr : List (Nat × Nat × Int)} (hr : z_fr env Rr) {x y : Nat} {vx vy : Int32} {n : Int} (h1 : env[x]? = some (.int vx)) (h2 : env[y]? = some (.int vy)) (h : z_kn Rr x y n = true) : vy.toInt + n ≤ vx.toInt := by
  unfold z_kn at h
  split at h
  · rename_i k hk
    obtain ⟨v, e1, e2⟩ := z_lbs_ok hr hk h1
    have : v = vy := by have := e1.symm.trans h2; cases this; rfl
    subst this
    have := z_ile_ok h
    omega
  · cases h
/-- the same, by more steps -/
def z_kx (R : List (Nat × Nat × Int)) (x y : Nat) (n : Int) : Bool := match z_lbs R 6 x y with
  | some k => z_ile n k
  | none => false
theorem z_kx_ok {env : List Value} {Rr : List (Nat × Nat × Int)} (hr : z_fr env Rr) {x y : Nat} {vx vy : Int32} {n : Int} (h1 : env[x]? = some (.int vx)) (h2 : env[y]? = some (.int vy)) (h : z_kx Rr x y n = true) : vy.toInt + n ≤ vx.toInt := by
  unfold z_kx at h
  split at h
  · rename_i k hk
    obtain ⟨v, e1, e2⟩ := z_lbs_ok hr hk h1
    have : v = vy := by have := e1.symm.trans h2; cases this; rfl
    subst this
    have := z_ile_ok h
    omega
  · cases h
/-- the relation can't be -/
def z_bad (R : List (Nat × Nat × Int)) (k : zC) (x y : Nat) : Bool := match k with
  | .eq => z_kn R x y 1 || z_kn R y x 1
  | .ne => z_kn R x y 0 && z_kn R y x 0
  | .lt => z_kn R x y 0
  | .ge => z_kn R y x 1
  | .gt => z_kn R y x 0
  | .le => z_kn R x y 1
theorem z_bad_ok {env : List Value} {Rr : List (Nat × Nat × Int)} (hr : z_fr env Rr) {k : zC} {x y : Nat} {vx vy : Int32} (h1 : env[x]? = some (.int vx)) (h2 : env[y]? = some (.int vy)) (h : z_bad Rr k x y = true) (hk : z_rel k vx.toInt vy.toInt) : False := by
  cases k <;> simp only [z_bad, z_rel, Bool.or_eq_true, Bool.and_eq_true] at h hk
  · rcases h with h | h
    · have := z_kn_ok hr h1 h2 h; omega
    · have := z_kn_ok hr h2 h1 h; omega
  · have := z_kn_ok hr h1 h2 h.1; have := z_kn_ok hr h2 h1 h.2; omega
  · have := z_kn_ok hr h1 h2 h; omega
  · have := z_kn_ok hr h2 h1 h; omega
  · have := z_kn_ok hr h2 h1 h; omega
  · have := z_kn_ok hr h1 h2 h; omega
/-- where a branch goes if the relation holds; nowhere if it can't -/
def z_bri (st : zS) (k : zC) (x y : Nat) (a b : zR) (S : List Nat) (pc : Nat) : List (Nat × zS) :=
  cond (z_ile (z_rf k a b).1 (z_rf k a b).2 && z_ile (z_rf (z_swp k) b a).1 (z_rf (z_swp k) b a).2 && !(z_bad (z_R st) k x y)) [(pc, z_mor st S [(x, .inl (z_rf k a b)), (y, .inl (z_rf (z_swp k) b a))] (z_rr k x y))] []
def z_brz (st : zS) (k : zC) (x : Nat) (a : zR) (S : List Nat) (pc : Nat) : List (Nat × zS) :=
  cond (z_ile (z_rf k a (0, 0)).1 (z_rf k a (0, 0)).2) [(pc, z_mor st S [(x, .inl (z_rf k a (0, 0)))] [])] []
def z_to (pc : Nat) (off : Int) : Option Nat := cond (z_ile 0 ((pc : Int) + off)) (some ((pc : Int) + off).toNat) none
theorem z_to_ok {pc : Nat} {off : Int} {t : Nat} (h : z_to pc off = some t) : (pc : Int) + off = (t : Int) := by
  obtain ⟨h1, rfl⟩ := z_cond h
  have := z_ile_ok h1
  omega
def z_icmp (st : zS) (pc : Nat) (k : zC) (off : Int) : Option (List (Nat × zS)) := match z_S st with
  | y :: x :: S => (match z_get (z_V st) x, z_get (z_V st) y, z_to pc off with
    | some (.inl a), some (.inl b), some t => some (z_bri st k x y a b S t ++ z_bri st (z_not k) x y a b S (pc + 3))
    | _, _, _ => none)
  | _ => none
def z_icnd (st : zS) (pc : Nat) (k : zC) (off : Int) : Option (List (Nat × zS)) := match z_S st with
  | x :: S => (match z_get (z_V st) x, z_to pc off with
    | some (.inl a), some t => some (z_brz st k x a S t ++ z_brz st (z_not k) x a S (pc + 3))
    | _, _ => none)
  | _ => none
section ZJUMPS
variable {p : Program} {l : Launch} {e : Env} {R : Room} {s : State} {m : MethodId} {args : Array Value} {below : List Frame} {meth : Method} {c : Code} {Q : State → Prop} {cc : ByteArray} {pc : Nat}
variable {OB : Nat → Nat} {D : va_G} {DA : Nat → ClassId} {cl : List vw_C} {TY : List zTy} {PHI : List (List Nat)} {sz : Nat} {raw : Option Nat} {pu : Bool} {T0 : zTp} {H0 : Heap} {env0 : List Value} {nL : Nat} {st st' : zS} {good : Nat → zS → Prop}
variable {H : Heap} {locs : List Loc} {cells slots : Nat} {ls : Array Slot} {rest : List Value}
theorem z_icmp_row (hx : p.tables.exec = Jvm.exec) (hb : c.code = cc) {x y : Int32} {k : zC} {off : Int} {t : Nat} (hd : decode cc pc = .ok (.if_icmp k off, 3)) (ht : (pc : Int) + off = (t : Int))
    (kt : z_rel k x.toInt y.toInt → W p l e R s m args below meth c H locs cells slots Q (F0 m t ls rest)) (kf : z_rel (z_not k) x.toInt y.toInt → W p l e R s m args below meth c H locs cells slots Q (F0 m (pc + 3) ls rest)) : W p l e R s m args below meth c H locs cells slots Q (F0 m pc ls (.int y :: .int x :: rest)) := by
  cases k
  · exact lv_icmp_eq hx hb hd ht (fun h => kt (by rw [h]; rfl)) (fun h => kf (fun q => h (Int32.toInt_inj.mp q)))
  · exact lv_icmp_ne hx hb hd ht (fun h => kt (fun q => h (Int32.toInt_inj.mp q))) (fun h => kf (by rw [h]; rfl))
  · exact lv_icmp_lt hx hb hd ht (fun h => kt (Int32.lt_iff_toInt_lt.mp h)) (fun h => kf (Int.not_lt.mp (fun q => h (Int32.lt_iff_toInt_lt.mpr q))))
  · exact lv_icmp_ge hx hb hd ht (fun h => kt (Int32.le_iff_toInt_le.mp h)) (fun h => kf (Int.not_le.mp (fun q => h (Int32.le_iff_toInt_le.mpr q))))
  · exact lv_icmp_gt hx hb hd ht (fun h => kt (Int32.lt_iff_toInt_lt.mp h)) (fun h => kf (Int.not_lt.mp (fun q => h (Int32.lt_iff_toInt_lt.mpr q))))
  · exact lv_icmp_le hx hb hd ht (fun h => kt (Int32.le_iff_toInt_le.mp h)) (fun h => kf (Int.not_le.mp (fun q => h (Int32.le_iff_toInt_le.mpr q))))
theorem z_icnd_row (hx : p.tables.exec = Jvm.exec) (hb : c.code = cc) {x : Int32} {k : zC} {off : Int} {t : Nat} (hd : decode cc pc = .ok (.ifCond k off, 3)) (ht : (pc : Int) + off = (t : Int))
    (kt : z_rel k x.toInt 0 → W p l e R s m args below meth c H locs cells slots Q (F0 m t ls rest)) (kf : z_rel (z_not k) x.toInt 0 → W p l e R s m args below meth c H locs cells slots Q (F0 m (pc + 3) ls rest)) : W p l e R s m args below meth c H locs cells slots Q (F0 m pc ls (.int x :: rest)) := by
  have z0 : (0 : Int32).toInt = 0 := rfl
  cases k
  · exact lv_if_eq hx hb hd ht (fun h => kt (by rw [h]; rfl)) (fun h => kf (fun q => h (Int32.toInt_inj.mp (q.trans z0.symm))))
  · exact lv_if_ne hx hb hd ht (fun h => kt (fun q => h (Int32.toInt_inj.mp (q.trans z0.symm)))) (fun h => kf (by rw [h]; rfl))
  · exact lv_if_lt hx hb hd ht (fun h => kt (Int32.lt_iff_toInt_lt.mp h)) (fun h => kf (Int.not_lt.mp (fun q => h (Int32.lt_iff_toInt_lt.mpr q))))
  · exact lv_if_ge hx hb hd ht (fun h => kt (Int32.le_iff_toInt_le.mp h)) (fun h => kf (Int.not_le.mp (fun q => h (Int32.le_iff_toInt_le.mpr q))))
  · exact lv_if_gt hx hb hd ht (fun h => kt (Int32.lt_iff_toInt_lt.mp h)) (fun h => kf (Int.not_lt.mp (fun q => h (Int32.lt_iff_toInt_lt.mpr q))))
  · exact lv_if_le hx hb hd ht (fun h => kt (Int32.le_iff_toInt_le.mp h)) (fun h => kf (Int.not_le.mp (fun q => h (Int32.le_iff_toInt_le.mpr q))))
theorem z_bri_ok (hg : z_Good p l e R s m args below meth c Q OB D DA cl TY PHI sz raw pu T0 H0 env0 nL good) {T : zTp} {env : List Value} {stk : List Value} (hs : z_sat OB D DA cl TY PHI sz raw pu T0 H0 env0 nL st T H locs env ls stk) {k : zC} {x y : Nat} {vx vy : Int32} {a b : zR} {S : List Nat} {t : Nat} {kk : List Value} (e1 : env[x]? = some (.int vx)) (e2 : env[y]? = some (.int vy)) (hxa : z_in a vx) (hyb : z_in b vy) (hS : z_stk env S kk)
    (hall : ∀ q ∈ z_bri st k x y a b S t, good q.1 q.2) (hr : z_rel k vx.toInt vy.toInt) : W p l e R s m args below meth c H locs (z_C st).1 (z_C st).2 Q (F0 m t ls kk) := by
  have r1 := z_rf_ok hxa hyb hr
  have r2 := z_rf_ok hyb hxa (z_rel_swp hr)
  unfold z_bri at hall
  have hc : (z_ile (z_rf k a b).1 (z_rf k a b).2 && z_ile (z_rf (z_swp k) b a).1 (z_rf (z_swp k) b a).2 && !(z_bad (z_R st) k x y)) = true := by
    simp only [Bool.and_eq_true, Bool.not_eq_true']
    refine ⟨⟨decide_eq_true (Int.le_trans r1.1 r1.2), decide_eq_true (Int.le_trans r2.1 r2.2)⟩, ?_⟩
    cases hb : z_bad (z_R st) k x y with
    | false => rfl
    | true => exact (z_bad_ok hs.2.2.2.2.2.2.2.1 e1 e2 hb hr).elim
  rw [hc] at hall
  have := hall _ (List.mem_singleton.mpr rfl)
  refine (hg _ _).mp this T H locs env ls kk (z_sat_mor hs hS (fun q hq => ?_) (z_rr_ok e1 e2 hr))
  rcases List.mem_cons.mp hq with rfl | hq
  · exact ⟨_, e1, z_vi r1⟩
  · rw [List.mem_singleton.mp hq]; exact ⟨_, e2, z_vi r2⟩
theorem z_brz_ok (hg : z_Good p l e R s m args below meth c Q OB D DA cl TY PHI sz raw pu T0 H0 env0 nL good) {T : zTp} {env : List Value} {stk : List Value} (hs : z_sat OB D DA cl TY PHI sz raw pu T0 H0 env0 nL st T H locs env ls stk) {k : zC} {x : Nat} {vx : Int32} {a : zR} {S : List Nat} {t : Nat} {kk : List Value} (e1 : env[x]? = some (.int vx)) (hxa : z_in a vx) (hS : z_stk env S kk)
    (hall : ∀ q ∈ z_brz st k x a S t, good q.1 q.2) (hr : z_rel k vx.toInt 0) : W p l e R s m args below meth c H locs (z_C st).1 (z_C st).2 Q (F0 m t ls kk) := by
  have r1 := z_rf_ok (b := (0, 0)) (y := 0) hxa ⟨Int.le_refl _, Int.le_refl _⟩ hr
  unfold z_brz at hall
  have hc : z_ile (z_rf k a (0, 0)).1 (z_rf k a (0, 0)).2 = true := decide_eq_true (Int.le_trans r1.1 r1.2)
  rw [hc] at hall
  have := hall _ (List.mem_singleton.mpr rfl)
  refine (hg _ _).mp this T H locs env ls kk (z_sat_mor hs hS (fun q hq => ?_) (fun q hq => absurd hq List.not_mem_nil))
  rw [List.mem_singleton.mp hq]; exact ⟨_, e1, z_vi r1⟩
theorem z_r_icmp (hg : z_Good p l e R s m args below meth c Q OB D DA cl TY PHI sz raw pu T0 H0 env0 nL good) (hx : p.tables.exec = Jvm.exec) (hb : c.code = cc) {k : zC} {off : Int} (hd : decode cc pc = .ok (.if_icmp k off, 3)) {L : List (Nat × zS)} (h : z_icmp st pc k off = some L) (hall : ∀ q ∈ L, good q.1 q.2) : good pc st := by
  refine (hg _ _).mpr fun T H locs env ls stk hs => ?_
  unfold z_icmp at h
  split at h
  · rename_i y x S hS
    split at h
    · rename_i a b t ha hb2 ht
      cases h
      obtain ⟨vy, kk, rfl, e1, hk⟩ := z_stk_cons hS hs.2.2.2.1
      obtain ⟨vx, k2, rfl, e2, hk2⟩ := hk
      obtain ⟨v, e3, x1, rfl, hxa⟩ := z_get_ok hs.2.2.2.2.1 ha
      obtain ⟨w, e4, y1, rfl, hyb⟩ := z_get_ok hs.2.2.2.2.1 hb2
      have q1 : vx = .int x1 := Option.some.inj (e2.symm.trans e3)
      have q2 : vy = .int y1 := Option.some.inj (e1.symm.trans e4)
      subst q1; subst q2
      exact z_icmp_row hx hb hd (z_to_ok ht) (z_bri_ok hg hs e3 e4 hxa hyb hk2 (fun q hq => hall q (List.mem_append_left _ hq))) (z_bri_ok hg hs e3 e4 hxa hyb hk2 (fun q hq => hall q (List.mem_append_right _ hq)))
    · cases h
  · cases h
theorem z_r_icnd (hg : z_Good p l e R s m args below meth c Q OB D DA cl TY PHI sz raw pu T0 H0 env0 nL good) (hx : p.tables.exec = Jvm.exec) (hb : c.code = cc) {k : zC} {off : Int} (hd : decode cc pc = .ok (.ifCond k off, 3)) {L : List (Nat × zS)} (h : z_icnd st pc k off = some L) (hall : ∀ q ∈ L, good q.1 q.2) : good pc st := by
  refine (hg _ _).mpr fun T H locs env ls stk hs => ?_
  unfold z_icnd at h
  split at h
  · rename_i x S hS
    split at h
    · rename_i a t ha ht
      cases h
      obtain ⟨vx, k2, rfl, e2, hk2⟩ := z_stk_cons hS hs.2.2.2.1
      obtain ⟨v, e3, x1, rfl, hxa⟩ := z_get_ok hs.2.2.2.2.1 ha
      have q1 : vx = .int x1 := Option.some.inj (e2.symm.trans e3)
      subst q1
      exact z_icnd_row hx hb hd (z_to_ok ht) (z_brz_ok hg hs e3 hxa hk2 (fun q hq => hall q (List.mem_append_left _ hq))) (z_brz_ok hg hs e3 hxa hk2 (fun q hq => hall q (List.mem_append_right _ hq)))
    · cases h
  · cases h
theorem z_r_goto (hg : z_Good p l e R s m args below meth c Q OB D DA cl TY PHI sz raw pu T0 H0 env0 nL good) (hx : p.tables.exec = Jvm.exec) (hb : c.code = cc) {off : Int} {t : Nat} (hd : decode cc pc = .ok (.goto off, 3)) (h : z_to pc off = some t) (k : good t st) : good pc st :=
  (hg _ _).mpr fun T H locs env ls stk hs => lv_goto hx hb hd (z_to_ok h) ((hg _ _).mp k T H locs env ls stk hs)
end ZJUMPS
end
section
/-! Switches. -/
def z_tswL (st : zS) (x : Nat) (S : List Nat) (pc : Nat) (a : zR) : Int → List Int → Option (List (Nat × zS))
  | _, [] => some []
  | key, off :: r => match z_tswL st x S pc a (key + 1) r with
    | some L => cond (z_ile a.1 key && z_ile key a.2) (match z_to pc off with
      | some t => some ((t, z_mor st S [(x, .inl (key, key))] []) :: L)
      | none => none) (some L)
    | none => none
theorem z_tswL_ok {st : zS} {x : Nat} {S : List Nat} {pc : Nat} {a : zR} : ∀ (offs : List Int) (key : Int) (L : List (Nat × zS)) (i : Nat) (off : Int), z_tswL st x S pc a key offs = some L → offs[i]? = some off → a.1 ≤ key + i → key + i ≤ a.2 → ∃ t, z_to pc off = some t ∧ (t, z_mor st S [(x, .inl (key + i, key + i))] []) ∈ L
  | [], key, L, i, off, h, hi, _, _ => by simp at hi
  | o :: r, key, L, i, off, h, hi, h1, h2 => by
    unfold z_tswL at h
    cases hr : z_tswL st x S pc a (key + 1) r with
    | none => rw [hr] at h; cases h
    | some L1 =>
      rw [hr] at h
      cases i with
      | zero =>
        have ho : o = off := by simpa using hi
        subst ho
        have hc : (z_ile a.1 key && z_ile key a.2) = true := by
          rw [Bool.and_eq_true]
          exact ⟨decide_eq_true (by simpa using h1), decide_eq_true (by simpa using h2)⟩
        rw [hc] at h
        cases ht : z_to pc o with
        | none => rw [ht] at h; cases h
        | some t =>
          rw [ht] at h
          cases h
          refine ⟨t, rfl, ?_⟩
          have : key + ((0 : Nat) : Int) = key := by omega
          rw [this]
          exact List.mem_cons_self
      | succ j =>
        have hi' : r[j]? = some off := by simpa using hi
        have e : key + ((j + 1 : Nat) : Int) = key + 1 + (j : Int) := by omega
        rw [e] at h1 h2 ⊢
        obtain ⟨t, h3, h4⟩ := z_tswL_ok r (key + 1) L1 j off hr hi' h1 h2
        refine ⟨t, h3, ?_⟩
        cases hc : (z_ile a.1 key && z_ile key a.2) with
        | false => rw [hc] at h; cases h; exact h4
        | true =>
          rw [hc] at h
          cases ht : z_to pc o with
          | none => rw [ht] at h; cases h
          | some t2 => rw [ht] at h; cases h; exact List.mem_cons_of_mem _ h4
def z_tsw (st : zS) (pc : Nat) (dflt lo hi : Int) (offs : List Int) : Option (List (Nat × zS)) := match z_S st with
  | x :: S => (match z_get (z_V st) x, z_to pc dflt with
    | some (.inl a), some t => (match z_tswL st x S pc a lo offs with
      | some L => cond (z_ile lo (hi + 1) && Nat.beq offs.length (hi + 1 - lo).toNat) (some (cond (z_ile lo a.1) [] [(t, z_mor st S [(x, .inl (a.1, z_min a.2 (lo - 1)))] [])] ++ cond (z_ile a.2 hi) [] [(t, z_mor st S [(x, .inl (z_max a.1 (hi + 1), a.2))] [])] ++ L)) none
      | none => none)
    | _, _ => none)
  | _ => none
def z_lswL (st : zS) (x : Nat) (S : List Nat) (pc : Nat) (t0 : Nat) : zR → List (Int × Int) → Option (List (Nat × zS))
  | a, [] => some (cond (z_ile a.1 a.2) [(t0, z_mor st S [(x, .inl a)] [])] [])
  | a, q :: r => match z_lswL st x S pc t0 (z_rf .ne a (q.1, q.1)) r with
    | some L => cond (z_ile a.1 q.1 && z_ile q.1 a.2) (match z_to pc q.2 with
      | some t => some ((t, z_mor st S [(x, .inl (q.1, q.1))] []) :: L)
      | none => none) (some L)
    | none => none
def z_lsw (st : zS) (pc : Nat) (dflt : Int) (ps : List (Int × Int)) : Option (List (Nat × zS)) := match z_S st with
  | x :: S => (match z_get (z_V st) x, z_to pc dflt with
    | some (.inl a), some t => cond ((ps.zip (ps.drop 1)).all (fun (a, next) => a.1 < next.1)) (z_lswL st x S pc t a ps) none
    | _, _ => none)
  | _ => none
theorem z_lswL_ok {st : zS} {x : Nat} {S : List Nat} {pc t0 : Nat} {dflt : Int} (h0 : z_to pc dflt = some t0) {v : Int32} : ∀ (ps : List (Int × Int)) (a : zR) (L : List (Nat × zS)), z_lswL st x S pc t0 a ps = some L → z_in a v → ∃ t r, z_to pc (lookupswitch.offset ps dflt v.toInt) = some t ∧ z_in r v ∧ (t, z_mor st S [(x, .inl r)] []) ∈ L
  | [], a, L, h, hv => by
    unfold z_lswL at h
    have hc : z_ile a.1 a.2 = true := decide_eq_true (Int.le_trans hv.1 hv.2)
    rw [hc] at h
    cases h
    exact ⟨t0, a, h0, hv, List.mem_singleton.mpr rfl⟩
  | q :: r, a, L, h, hv => by
    obtain ⟨key, off⟩ := q
    unfold z_lswL at h
    rw [lookupswitch.offset_cons]
    cases hr : z_lswL st x S pc t0 (z_rf .ne a (key, key)) r with
    | none => rw [hr] at h; cases h
    | some L1 =>
      rw [hr] at h
      by_cases hk : key = v.toInt
      · rw [if_pos hk]
        have hc : (z_ile a.1 key && z_ile key a.2) = true := by
          rw [Bool.and_eq_true]
          exact ⟨decide_eq_true (by rw [hk]; exact hv.1), decide_eq_true (by rw [hk]; exact hv.2)⟩
        rw [hc] at h
        cases ht : z_to pc off with
        | none => rw [ht] at h; cases h
        | some t =>
          rw [ht] at h
          cases h
          exact ⟨t, (key, key), rfl, ⟨by rw [hk]; exact Int.le_refl _, by rw [hk]; exact Int.le_refl _⟩, List.mem_cons_self⟩
      · rw [if_neg hk]
        have hv2 : z_in (z_rf .ne a (key, key)) v := by
          by_cases hb : -2147483648 ≤ key ∧ key ≤ 2147483647
          · have hkk : (Int32.ofInt key).toInt = key := Int32.toInt_ofInt_of_le (by omega) (by omega)
            exact z_rf_ok (y := Int32.ofInt key) hv ⟨by rw [hkk]; exact Int.le_refl _, by rw [hkk]; exact Int.le_refl _⟩ (by rw [hkk]; exact fun q => hk q.symm)
          · obtain ⟨x1, x2⟩ := hv
            have l := z_lo v
            have u := z_hi v
            refine ⟨?_, ?_⟩
            · show cond _ _ _ ≤ _
              cases hc : z_ile key key && z_ile a.1 key && z_ile key a.1 with
              | false => exact x1
              | true =>
                simp only [Bool.and_eq_true] at hc
                have := z_ile_ok hc.1.2; have := z_ile_ok hc.2
                show a.1 + 1 ≤ _
                omega
            · show _ ≤ cond _ _ _
              cases hc : z_ile key key && z_ile a.2 key && z_ile key a.2 with
              | false => exact x2
              | true =>
                simp only [Bool.and_eq_true] at hc
                have := z_ile_ok hc.1.2; have := z_ile_ok hc.2
                show _ ≤ a.2 - 1
                omega
        obtain ⟨t, r2, h3, h4, h5⟩ := z_lswL_ok h0 r _ L1 hr hv2
        refine ⟨t, r2, h3, h4, ?_⟩
        cases hc : (z_ile a.1 key && z_ile key a.2) with
        | false => rw [hc] at h; cases h; exact h5
        | true =>
          rw [hc] at h
          cases ht : z_to pc off with
          | none => rw [ht] at h; cases h
          | some t2 => rw [ht] at h; cases h; exact List.mem_cons_of_mem _ h5
section ZSWITCH
variable {p : Program} {l : Launch} {e : Env} {R : Room} {s : State} {m : MethodId} {args : Array Value} {below : List Frame} {meth : Method} {c : Code} {Q : State → Prop} {cc : ByteArray} {pc : Nat}
variable {OB : Nat → Nat} {D : va_G} {DA : Nat → ClassId} {cl : List vw_C} {TY : List zTy} {PHI : List (List Nat)} {sz : Nat} {raw : Option Nat} {pu : Bool} {T0 : zTp} {H0 : Heap} {env0 : List Value} {nL : Nat} {st st' : zS} {good : Nat → zS → Prop}
theorem z_r_tsw (hg : z_Good p l e R s m args below meth c Q OB D DA cl TY PHI sz raw pu T0 H0 env0 nL good) (hx : p.tables.exec = Jvm.exec) (hb : c.code = cc) {dflt lo hi : Int} {offs : Array Int} {len : Nat} (hd : decode cc pc = .ok (.tableswitch dflt lo hi offs, len)) {L : List (Nat × zS)} (h : z_tsw st pc dflt lo hi offs.toList = some L) (hall : ∀ q ∈ L, good q.1 q.2) : good pc st := by
  refine (hg _ _).mpr fun T H locs env ls stk hs => ?_
  unfold z_tsw at h
  split at h
  · rename_i x S hS
    split at h
    · rename_i a t ha ht
      split at h
      · rename_i L1 hL1
        obtain ⟨hc, rfl⟩ := z_cond h
        rw [Bool.and_eq_true] at hc
        have c1 := z_ile_ok hc.1
        have c2 := z_beq hc.2
        obtain ⟨vx, k2, rfl, e2, hk2⟩ := z_stk_cons hS hs.2.2.2.1
        obtain ⟨v, e3, x1, rfl, hxa⟩ := z_get_ok hs.2.2.2.2.1 ha
        have q1 : vx = .int x1 := Option.some.inj (e2.symm.trans e3)
        subst q1
        have go : ∀ (t2 : Nat) (r : zR), z_in r x1 → (t2, z_mor st S [(x, .inl r)] []) ∈ (cond (z_ile lo a.1) [] [(t, z_mor st S [(x, .inl (a.1, z_min a.2 (lo - 1)))] [])] ++ cond (z_ile a.2 hi) [] [(t, z_mor st S [(x, .inl (z_max a.1 (hi + 1), a.2))] [])] ++ L1) → W p l e R s m args below meth c H locs (z_C st).1 (z_C st).2 Q (F0 m t2 ls k2) := by
          intro t2 r hr hm
          refine (hg _ _).mp (hall _ hm) T H locs env ls k2 (z_sat_mor hs hk2 (fun q hq => ?_) (fun q hq => absurd hq List.not_mem_nil))
          rw [List.mem_singleton.mp hq]; exact ⟨_, e3, z_vi hr⟩
        by_cases hlo : x1.toInt < lo
        · refine lv_tableOut hx hb hd (Or.inl hlo) (z_to_ok ht) (go t (a.1, z_min a.2 (lo - 1)) ⟨hxa.1, z_min_ge hxa.2 (by omega)⟩ ?_)
          have : z_ile lo a.1 = false := by
            cases hq : z_ile lo a.1 with
            | false => rfl
            | true => have := z_ile_ok hq; have := hxa.1; omega
          rw [this]
          exact List.mem_append_left _ (List.mem_append_left _ (List.mem_singleton.mpr rfl))
        · by_cases hhi : hi < x1.toInt
          · refine lv_tableOut hx hb hd (Or.inr hhi) (z_to_ok ht) (go t (z_max a.1 (hi + 1), a.2) ⟨z_max_le hxa.1 (by omega), hxa.2⟩ ?_)
            have : z_ile a.2 hi = false := by
              cases hq : z_ile a.2 hi with
              | false => rfl
              | true => have := z_ile_ok hq; have := hxa.2; omega
            rw [this]
            exact List.mem_append_left _ (List.mem_append_right _ (List.mem_singleton.mpr rfl))
          · have hlt : (x1.toInt - lo).toNat < offs.toList.length := by omega
            have hgo := List.getElem?_eq_getElem hlt
            have ek : lo + (((x1.toInt - lo).toNat : Nat) : Int) = x1.toInt := by omega
            obtain ⟨t2, h3, h4⟩ := z_tswL_ok offs.toList lo L1 (x1.toInt - lo).toNat _ hL1 hgo (by rw [ek]; exact hxa.1) (by rw [ek]; exact hxa.2)
            rw [ek] at h4
            refine lv_tableIn hx hb hd hlo hhi (off := offs.toList[(x1.toInt - lo).toNat]) ?_ (z_to_ok h3) (go t2 _ ⟨Int.le_refl _, Int.le_refl _⟩ (List.mem_append_right _ h4))
            rw [← Array.getElem?_toList]; exact hgo
      · cases h
    · cases h
  · cases h
theorem z_r_lsw (hg : z_Good p l e R s m args below meth c Q OB D DA cl TY PHI sz raw pu T0 H0 env0 nL good) (hx : p.tables.exec = Jvm.exec) (hb : c.code = cc) {dflt : Int} {ps : Array (Int × Int)} {len : Nat} (hd : decode cc pc = .ok (.lookupswitch dflt ps, len)) {L : List (Nat × zS)} (h : z_lsw st pc dflt ps.toList = some L) (hall : ∀ q ∈ L, good q.1 q.2) : good pc st := by
  refine (hg _ _).mpr fun T H locs env ls stk hs => ?_
  unfold z_lsw at h
  split at h
  · rename_i x S hS
    split at h
    · rename_i a t ha ht
      cases hc : (ps.toList.zip (ps.toList.drop 1)).all (fun (a, next) => a.1 < next.1) with
      | false => rw [hc] at h; cases h
      | true =>
        rw [hc] at h
        obtain ⟨vx, k2, rfl, e2, hk2⟩ := z_stk_cons hS hs.2.2.2.1
        obtain ⟨v, e3, x1, rfl, hxa⟩ := z_get_ok hs.2.2.2.2.1 ha
        have q1 : vx = .int x1 := Option.some.inj (e2.symm.trans e3)
        subst q1
        obtain ⟨t2, r, h3, h4, h5⟩ := z_lswL_ok ht ps.toList a L h hxa
        refine lv_lookup hx hb hd hc rfl (z_to_ok h3) ?_
        refine (hg _ _).mp (hall _ h5) T H locs env ls k2 (z_sat_mor hs hk2 (fun q hq => ?_) (fun q hq => absurd hq List.not_mem_nil))
        rw [List.mem_singleton.mp hq]; exact ⟨_, e3, z_vi h4⟩
    · cases h
  · cases h
end ZSWITCH
end
section
/-! Reading and writing cells. -/
def z_isx (st : zS) (d : Nat) : Bool := (z_X st).any (fun q => Nat.beq q.1 d)
/-- two values are references to different cells -/
def z_apt (st : zS) (i j : Nat) : Bool := match z_get (z_V st) i, z_get (z_V st) j with
  | some (.inr (.inl t)), some (.inr (.inl u)) => !(Nat.beq t u)
  | some (.inr (.inl _)), none => z_isx st j
  | none, some (.inr (.inl _)) => z_isx st i
  | none, none => z_isx st i && z_isx st j && !(Nat.beq i j)
  | _, _ => false
/-- two indexes are apart -/
def z_dis (st : zS) (i j : Nat) : Bool := match z_get (z_V st) i, z_get (z_V st) j with
  | some (.inl a), some (.inl b) => z_ile (a.2 + 1) b.1 || z_ile (b.2 + 1) a.1
  | _, _ => false
/-- two indexes are one -/
def z_sme (st : zS) (i j : Nat) : Bool := Nat.beq i j || (match z_get (z_V st) i, z_get (z_V st) j with
  | some (.inl a), some (.inl b) => z_ile a.2 a.1 && z_ile b.2 b.1 && z_ile a.1 b.1 && z_ile b.1 a.1
  | _, _ => false)
def z_ffind (st : zS) (d ci k : Nat) : Option Nat := ((z_F st).find? (fun q => Nat.beq q.1 d && Nat.beq q.2.1 ci && Nat.beq q.2.2.1 k)).map (fun q => q.2.2.2)
def z_efind (st : zS) (d j : Nat) : Option Nat := ((z_E st).find? (fun q => Nat.beq q.1 d && z_sme st q.2.1 j)).map (fun q => q.2.2)
section ZHEAP
variable {OB : Nat → Nat} {D : va_G} {DA : Nat → ClassId} {cl : List vw_C} {TY : List zTy} {PHI : List (List Nat)} {sz : Nat} {raw : Option Nat} {pu : Bool} {T0 : zTp} {H0 : Heap} {env0 : List Value} {nL : Nat} {st st' : zS} {T : zTp} {H : Heap} {locs : List Loc} {env : List Value} {ls : Array Slot} {stk : List Value}
theorem z_isx_ok {d : Nat} (h : z_isx st d = true) (hs : z_sat OB D DA cl TY PHI sz raw pu T0 H0 env0 nL st T H locs env ls stk) : ∃ a : Nat, env[d]? = some (.ref a) ∧ T a = none ∧ (sz ≤ a ∧ (H0.size ≤ a ∨ raw = some a)) ∧ ∃ q ∈ z_X st, q.1 = d ∧ ∃ r V, cl[q.2]? = some r ∧ t_OB a (D.1 q.2) r.2.2 (D.2 q.2) H V := by
  obtain ⟨q, hq, hq2⟩ := List.any_eq_true.mp h
  obtain ⟨a, h1, h2, h3, h4⟩ := z_fx_in hs.2.2.2.2.2.2.2.2.1 q hq
  have e := z_beq hq2
  rw [e] at h1
  exact ⟨a, h1, h2, h3, q, hq, e, h4⟩
theorem z_fx_apart {n0 : Nat} {X : List (Nat × Nat)} (h : z_fx D cl T sz n0 raw H env X) {p q : Nat × Nat} (hp : p ∈ X) (hq : q ∈ X) (hne : p.1 ≠ q.1) {a : Nat} (h1 : env[p.1]? = some (.ref a)) : env[q.1]? ≠ some (.ref a) := by
  induction X with
  | nil => exact absurd hp List.not_mem_nil
  | cons x X ih =>
    obtain ⟨⟨b, e1, _, _, _, e5⟩, hr⟩ := h
    rcases List.mem_cons.mp hp with ep | hp2
    · rcases List.mem_cons.mp hq with eq | hq2
      · exact absurd (by rw [ep, eq]) hne
      · intro e
        rw [ep] at h1
        have hb : b = a := by rw [e1] at h1; cases h1; rfl
        subst hb
        exact e5 q hq2 e
    · rcases List.mem_cons.mp hq with eq | hq2
      · intro e
        rw [eq] at e
        have hb : b = a := by rw [e1] at e; cases e; rfl
        subst hb
        exact e5 p hp2 h1
      · exact ih hr hp2 hq2
theorem z_apt_ok {i j : Nat} (h : z_apt st i j = true) (hs : z_sat OB D DA cl TY PHI sz raw pu T0 H0 env0 nL st T H locs env ls stk) {a b : Nat} (h1 : env[i]? = some (.ref a)) (h2 : env[j]? = some (.ref b)) : a ≠ b := by
  unfold z_apt at h
  split at h
  · rename_i t u ht hu
    obtain ⟨v, e1, a1, rfl, g1⟩ := z_get_ok hs.2.2.2.2.1 ht
    obtain ⟨w, e2, b1, rfl, g2⟩ := z_get_ok hs.2.2.2.2.1 hu
    rw [h1] at e1; cases e1
    rw [h2] at e2; cases e2
    intro q
    subst q
    rw [g1] at g2
    cases g2
    simp at h
  · rename_i t ht hu
    obtain ⟨v, e1, a1, rfl, g1⟩ := z_get_ok hs.2.2.2.2.1 ht
    obtain ⟨b1, e2, g2, _⟩ := z_isx_ok h hs
    rw [h1] at e1; cases e1
    rw [h2] at e2; cases e2
    intro q
    subst q
    rw [g1] at g2
    cases g2
  · rename_i t ht hu
    obtain ⟨v, e1, a1, rfl, g1⟩ := z_get_ok hs.2.2.2.2.1 hu
    obtain ⟨b1, e2, g2, _⟩ := z_isx_ok h hs
    rw [h2] at e1; cases e1
    rw [h1] at e2; cases e2
    intro q
    subst q
    rw [g1] at g2
    cases g2
  · simp only [Bool.and_eq_true, Bool.not_eq_true'] at h
    obtain ⟨a1, e1, _, _, p, hp, rfl, _⟩ := z_isx_ok h.1.1 hs
    obtain ⟨b1, e2, _, _, q, hq, rfl, _⟩ := z_isx_ok h.1.2 hs
    have hne : p.1 ≠ q.1 := by
      intro e
      rw [e] at h
      simp at h
    intro e
    subst e
    exact z_fx_apart hs.2.2.2.2.2.2.2.2.1 hp hq hne h1 h2
  · cases h
theorem z_sl_kept {H1 : Heap} {a k : Nat} {w : Value} (h : z_sl H a k w) (e : H1[a]? = H[a]?) : z_sl H1 a k w := by
  obtain ⟨cell, h1, h2, h3⟩ := h
  exact ⟨cell, by rw [e]; exact h1, h2, h3⟩
theorem z_cell_kept {H1 : Heap} {a : Nat} {ty : zTy} (h : z_cell OB D DA cl T H a ty) (e : H1[a]? = H[a]?) : z_cell OB D DA cl T H1 a ty := by
  cases ty with
  | inl o =>
    obtain ⟨r, h1, h2, V, h3, h4⟩ := h
    exact ⟨r, h1, h2, V, h3.kept e, h4⟩
  | inr q =>
    obtain ⟨n, f, h1, h2⟩ := h
    exact ⟨n, f, by rw [e]; exact h1, h2⟩
theorem z_dis_ok {i j : Nat} (h : z_dis st i j = true) (hs : z_sat OB D DA cl TY PHI sz raw pu T0 H0 env0 nL st T H locs env ls stk) {x y : Int32} (h1 : env[i]? = some (.int x)) (h2 : env[j]? = some (.int y)) : x.toInt ≠ y.toInt := by
  unfold z_dis at h
  split at h
  · rename_i a b ha hb
    obtain ⟨v, e1, x1, rfl, g1⟩ := z_get_ok hs.2.2.2.2.1 ha
    obtain ⟨w, e2, y1, rfl, g2⟩ := z_get_ok hs.2.2.2.2.1 hb
    rw [h1] at e1; cases e1
    rw [h2] at e2; cases e2
    rw [Bool.or_eq_true] at h
    obtain ⟨p1, p2⟩ := g1
    obtain ⟨p3, p4⟩ := g2
    rcases h with h | h <;> have := z_ile_ok h <;> omega
  · cases h
theorem z_sme_ok {i j : Nat} (h : z_sme st i j = true) (hs : z_sat OB D DA cl TY PHI sz raw pu T0 H0 env0 nL st T H locs env ls stk) {x y : Int32} (h1 : env[i]? = some (.int x)) (h2 : env[j]? = some (.int y)) : x = y := by
  unfold z_sme at h
  rw [Bool.or_eq_true] at h
  rcases h with h | h
  · rw [z_beq h, h2] at h1; cases h1; rfl
  · split at h
    · rename_i a b ha hb
      obtain ⟨v, e1, x1, rfl, g1⟩ := z_get_ok hs.2.2.2.2.1 ha
      obtain ⟨w, e2, y1, rfl, g2⟩ := z_get_ok hs.2.2.2.2.1 hb
      rw [h1] at e1; cases e1
      rw [h2] at e2; cases e2
      simp only [Bool.and_eq_true] at h
      have := z_ile_ok h.1.1.1; have := z_ile_ok h.1.1.2; have := z_ile_ok h.1.2; have := z_ile_ok h.2
      obtain ⟨p1, p2⟩ := g1
      obtain ⟨p3, p4⟩ := g2
      exact Int32.toInt_inj.mp (by omega)
    · cases h
theorem z_ffind_ok {d ci k w : Nat} (h : z_ffind st d ci k = some w) (hs : z_sat OB D DA cl TY PHI sz raw pu T0 H0 env0 nL st T H locs env ls stk) : ∃ (a : Nat) (v : Value), env[d]? = some (.ref a) ∧ env[w]? = some v ∧ z_sl H a (D.2 ci k) v := by
  unfold z_ffind at h
  cases hf : (z_F st).find? (fun q => Nat.beq q.1 d && Nat.beq q.2.1 ci && Nat.beq q.2.2.1 k) with
  | none => rw [hf] at h; cases h
  | some q =>
    rw [hf] at h
    cases h
    have hm := List.mem_of_find?_eq_some hf
    have hp := List.find?_some hf
    simp only [Bool.and_eq_true] at hp
    obtain ⟨a, v, r, e1, e2, e3, e4, e5⟩ := hs.2.2.2.2.2.1 q hm
    rw [z_beq hp.1.1] at e1
    rw [z_beq hp.1.2, z_beq hp.2] at e5
    exact ⟨a, v, e1, e2, e5⟩
theorem z_efind_ok {d j w : Nat} (h : z_efind st d j = some w) (hs : z_sat OB D DA cl TY PHI sz raw pu T0 H0 env0 nL st T H locs env ls stk) {y : Int32} (hj : env[j]? = some (.int y)) : ∃ (a : Nat) (v : Value), env[d]? = some (.ref a) ∧ env[w]? = some v ∧ 0 ≤ y.toInt ∧ z_sl H a y.toInt.toNat v := by
  unfold z_efind at h
  cases hf : (z_E st).find? (fun q => Nat.beq q.1 d && z_sme st q.2.1 j) with
  | none => rw [hf] at h; cases h
  | some q =>
    rw [hf] at h
    cases h
    have hm := List.mem_of_find?_eq_some hf
    have hp := List.find?_some hf
    simp only [Bool.and_eq_true] at hp
    obtain ⟨a, x, v, e1, e2, e3, e4, e5⟩ := hs.2.2.2.2.2.2.1 q hm
    rw [z_beq hp.1] at e1
    have := z_sme_ok hp.2 hs e2 hj
    subst this
    exact ⟨a, v, e1, e4, e3, e5⟩
/-- a typed object -/
theorem z_obj {d t ci : Nat} {fl : List zV} (hs : z_sat OB D DA cl TY PHI sz raw pu T0 H0 env0 nL st T H locs env ls stk) (h1 : z_get (z_V st) d = some (.inr (.inl t))) (h2 : TY[t]? = some (.inl (ci, fl))) : ∃ (a : Nat) (r : vw_C) (V : Nat → Value), env[d]? = some (.ref a) ∧ T a = some t ∧ cl[ci]? = some r ∧ fl.length = r.2.2 ∧ t_OB a (D.1 ci) r.2.2 (D.2 ci) H V ∧ ∀ k c, fl[k]? = some c → z_v OB T c (V k) := by
  obtain ⟨v, e1, a, rfl, g1⟩ := z_get_ok hs.2.2.2.2.1 h1
  obtain ⟨ty, g2, g3⟩ := hs.2.2.2.2.2.2.2.2.2.1.1 a t g1
  rw [h2] at g2
  cases g2
  obtain ⟨r, q1, q2, V, q3, q4⟩ := g3
  exact ⟨a, r, V, e1, g1, q1, q2, q3, q4⟩
theorem z_arr {d t ek lo hi : Nat} {sg : List ((Nat × Nat) × zV)} (hs : z_sat OB D DA cl TY PHI sz raw pu T0 H0 env0 nL st T H locs env ls stk) (h1 : z_get (z_V st) d = some (.inr (.inl t))) (h2 : TY[t]? = some (.inr (ek, (lo, hi), sg))) : ∃ (a n : Nat) (f : Nat → Value), env[d]? = some (.ref a) ∧ T a = some t ∧ H[a]? = some (arrV (DA ek) n f) ∧ lo ≤ n ∧ n ≤ hi ∧ n < 2147483648 ∧ ∀ g ∈ sg, ∀ j, j < n → g.1.1 ≤ j → j ≤ g.1.2 → z_v OB T g.2 (f j) := by
  obtain ⟨v, e1, a, rfl, g1⟩ := z_get_ok hs.2.2.2.2.1 h1
  obtain ⟨ty, g2, g3⟩ := hs.2.2.2.2.2.2.2.2.2.1.1 a t g1
  rw [h2] at g2
  cases g2
  obtain ⟨n, f, q1, q2, q3, q4, q5⟩ := g3
  exact ⟨a, n, f, e1, g1, q1, q2, q3, q4, q5⟩
end ZHEAP
end
section
/-! Fields. -/
def z_ek : Nat → FieldType
  | 0 => .int
  | 1 => .byte
  | _ => .long
/-- what the tables say of the classes and of a class's own places -/
def z_St (Ts : List Cond) (cl : List vw_C) (FT : Nat → Nat → FieldType) (own : String) (FL : List (Nat × Nat × Nat)) : Prop :=
  (∀ ci r, cl[ci]? = some r → (∀ w ∈ u_ws r.1 r.2.1 r.2.2, w ∈ Ts) ∧ (∀ k, k < r.2.2 → parseFieldDescriptor (r.2.1 k).2.2.1 = some (FT ci k)) ∧ (∀ a, a < r.2.2 → ∀ b, b < r.2.2 → a ≠ b → (r.2.1 a).2.1 ≠ (r.2.1 b).2.1) ∧ (∀ k, k < r.2.2 → (r.2.1 k).1 = r.1)) ∧
  (∀ q ∈ FL, ∃ r, cl[q.2.1]? = some r ∧ q.2.2 < r.2.2 ∧ Cond.fieldLink own q.1 (r.2.1 q.2.2).1 (r.2.1 q.2.2).2.1 (r.2.1 q.2.2).2.2.1 ∈ Ts)
def z_Dy (s : State) (m : MethodId) (args : Array Value) (Ts : List Cond) (own : String) (D : va_G) (cl : List vw_C) (DA : Nat → ClassId) (tys : List (ClassId × FieldType)) : Prop :=
  (∀ w ∈ Ts, w.before args s = true) ∧ s.vm.findClass own = some m.cls ∧ va_K D cl tys s ∧ ∀ k, k < 3 → tys[k]? = some (DA k, z_ek k)
def z_fit (ty : FieldType) (c : zV) : Bool := match ty, c with
  | .int, .inl _ => true
  | .boolean, .inl r => z_ile 0 r.1 && z_ile r.2 1
  | .object _, .inr (.inl _) => true
  | .array _, .inr (.inl _) => true
  | _, _ => false
theorem z_fit_ok {OB : Nat → Nat} {T : zTp} {ty : FieldType} {c : zV} {v : Value} (h : z_fit ty c = true) (hv : z_v OB T c v) : narrow ty v = v ∧ fits ty v = true := by
  cases ty <;> rcases c with r | t | k <;> simp only [z_fit, Bool.false_eq_true, Bool.and_eq_true] at h
  · obtain ⟨x, rfl, h1, h2⟩ := hv
    exact ⟨rfl, rfl⟩
  · obtain ⟨x, rfl, h1, h2⟩ := hv
    have l1 := z_ile_ok h.1
    have l2 := z_ile_ok h.2
    have hx : x.toInt = 0 ∨ x.toInt = 1 := by omega
    rcases hx with hx | hx
    · have : x = 0 := z_int0 hx
      subst this
      exact ⟨rfl, rfl⟩
    · have : x = 1 := Int32.toInt_inj.mp (by rw [hx]; rfl)
      subst this
      exact ⟨rfl, rfl⟩
  · obtain ⟨a, rfl, h1⟩ := hv
    exact ⟨rfl, rfl⟩
  · obtain ⟨a, rfl, h1⟩ := hv
    exact ⟨rfl, rfl⟩
/-- a cell whose slot is set is still of its class -/
theorem z_ob_set {a : Nat} {cC : ClassId} {N : Nat} {iS : Nat → Nat} {H H1 : Heap} {V : Nat → Value} {cell : Cell} {j : Nat} {v : Value} (h : t_OB a cC N iS H V) (hc : H[a]? = some cell) (h1 : H1[a]? = some (cell.setSlot j v)) : ∃ V', t_OB a cC N iS H1 V' := by
  obtain ⟨cell2, q1, q2, q3, q4⟩ := h
  rw [hc] at q1
  cases q1
  refine ⟨fun k => if iS k = j then v else V k, _, h1, q2, q3, fun k hk => ?_⟩
  show (cell.setSlot j v).slots[iS k]? = some (if iS k = j then v else V k)
  by_cases e : iS k = j
  · rw [if_pos e, e]
    exact Cell.slots_setSlot_self _ (k2_hasslot (by rw [← e]; exact q4 k hk))
  · rw [if_neg e, slot_ne _ _ (fun h => e h.symm)]
    exact q4 k hk
section ZFIELDS
variable {p : Program} {l : Launch} {e : Env} {R : Room} {s : State} {m : MethodId} {args : Array Value} {below : List Frame} {meth : Method} {c : Code} {Q : State → Prop} {cc : ByteArray} {pc : Nat}
variable {OB : Nat → Nat} {D : va_G} {DA : Nat → ClassId} {cl : List vw_C} {TY : List zTy} {PHI : List (List Nat)} {sz : Nat} {raw : Option Nat} {pu : Bool} {T0 : zTp} {H0 : Heap} {env0 : List Value} {nL : Nat} {st st' : zS} {good : Nat → zS → Prop}
variable {Ts : List Cond} {own : String} {FT : Nat → Nat → FieldType} {FL : List (Nat × Nat × Nat)} {tys : List (ClassId × FieldType)}
variable {T : zTp} {H : Heap} {locs : List Loc} {env : List Value} {ls : Array Slot} {stk : List Value} {cells slots : Nat} {rest : List Value}
theorem z_apart {ci : Nat} {r : vw_C} (hS : z_St Ts cl FT own FL) (hD : z_Dy s m args Ts own D cl DA tys) (hc : cl[ci]? = some r) : ∀ x y, x < r.2.2 → y < r.2.2 → x ≠ y → D.2 ci x ≠ D.2 ci y :=
  va_apart (own := own) hD.1 (hS.1 ci r hc).1 (FT ci) (hS.1 ci r hc).2.1 (hS.1 ci r hc).2.2.1 hD.2.2.1 hc
/-- a field is read, by its slot -/
theorem z_getrow (hx : p.tables.exec = Jvm.exec) (hb : c.code = cc) (hS : z_St Ts cl FT own FL) (hD : z_Dy s m args Ts own D cl DA tys) {q : Nat × Nat × Nat} (hq : q ∈ FL) {a : Nat} {v : Value} (hv : z_sl H a (D.2 q.2.1 q.2.2) v) (hd : decode cc pc = .ok (.getfield q.1, 3))
    (kk : W p l e R s m args below meth c H locs cells slots Q (F0 m (pc + 3) ls (v :: rest))) : W p l e R s m args below meth c H locs cells slots Q (F0 m pc ls (.ref a :: rest)) := by
  obtain ⟨r, hc, hk, hl⟩ := hS.2 q hq
  obtain ⟨hts, hown, hK, -⟩ := hD
  obtain ⟨hSl, hfc, kC, hkC, hkind⟩ := hK.1 _ _ hc
  obtain ⟨cf, kf, fi, f, hi, hsl⟩ := hSl q.2.2 hk
  obtain ⟨cell, g1, g2, g3⟩ := hv
  exact W.getf hx hb hown (hts _ hl) hi (u_facts hfc hkC (u_lays hts (hS.1 _ _ hc).1 hk) hi).1 g1 (by rw [g2]; exact fun h => by cases h) (v := v) (by rw [hsl]; exact g3) rfl rfl hd kk
/-- a field is set -/
theorem z_putrow (hx : p.tables.exec = Jvm.exec) (hb : c.code = cc) (hS : z_St Ts cl FT own FL) (hD : z_Dy s m args Ts own D cl DA tys) {q : Nat × Nat × Nat} (hq : q ∈ FL) {r : vw_C} (hc : cl[q.2.1]? = some r) {a : Nat} {V : Nat → Value} (ho : t_OB a (D.1 q.2.1) r.2.2 (D.2 q.2.1) H V) (hfin : (r.2.1 q.2.2).2.2.2 = false ∨ (meth.name = "<init>" ∧ r.1 = own)) {v : Value} (hn : narrow (FT q.2.1 q.2.2) v = v ∧ fits (FT q.2.1 q.2.2) v = true) (hd : decode cc pc = .ok (.putfield q.1, 3))
    (kk : ∀ (H1 : Heap) (cell : Cell), H[a]? = some cell → H1[a]? = some (cell.setSlot (D.2 q.2.1 q.2.2) v) → H1.size = H.size → (∀ b : Nat, b ≠ a → H1[b]? = H[b]?) → t_OB a (D.1 q.2.1) r.2.2 (D.2 q.2.1) H1 (updV V q.2.2 v) → W p l e R s m args below meth c H1 (locs ++ [⟨a, D.2 q.2.1 q.2.2⟩]) cells slots Q (F0 m (pc + 3) ls rest)) : W p l e R s m args below meth c H locs cells slots Q (F0 m pc ls (v :: .ref a :: rest)) := by
  have hap := z_apart hS hD hc
  obtain ⟨r2, hc2, hk, hl⟩ := hS.2 q hq
  rw [hc] at hc2
  cases hc2
  obtain ⟨hts, hown, hK, -⟩ := hD
  obtain ⟨hSl, hfc, kC, hkC, hkind⟩ := hK.1 _ _ hc
  obtain ⟨cf, kf, fi, f, hi, hsl⟩ := hSl q.2.2 hk
  obtain ⟨cell, q1, q2, q3, q4⟩ := ho
  have hlay := hts _ ((hS.1 _ _ hc).1 _ (u_in_lay hk))
  have hdt := (hS.1 _ _ hc).2.1 _ hk
  have hst := (u_facts hfc hkC (u_lays hts (hS.1 _ _ hc).1 hk) hi).1
  have fin : ∀ H', H'[a]? = some (cell.setSlot f.slot v) → t_OB a (D.1 q.2.1) r.2.2 (D.2 q.2.1) H' (updV V q.2.2 v) := by
    intro H' e1
    rw [hsl] at e1
    exact ⟨_, e1, q2, q3, t_set q4 hap hk v⟩
  cases hf : (r.2.1 q.2.2).2.2.2 with
  | false =>
    unfold u_lay at hlay
    rw [if_neg (by rw [hf]; decide)] at hlay
    have h6 := u_store hfc hkC hkind hlay hi hdt hn.1 hn.2
    refine W.putK hx hb (f := f) ⟨hown, hts _ hl, ⟨_, _, _, hi⟩, hst⟩ (by rw [q2]; exact h6) q1 q3 (by rw [hsl]; exact k2_hasslot (q4 _ hk)) rfl rfl hd fun H' e1 e2 e3 => ?_
    have := kk H' cell q1 (by rw [← hsl]; exact e1) e2 e3 (fin H' e1)
    rwa [← hsl] at this
  | true =>
    unfold u_lay at hlay
    rw [if_pos hf] at hlay
    rcases hfin with h | ⟨hin, hcl⟩
    · rw [hf] at h; cases h
    · have hcf : m.cls = cf := by
        obtain ⟨_, _, c', _, _, _, -, -, hf', -, -, -, hown2, -⟩ := Cond.laysFinal_spec hlay
        have e1 : c' = cf := by have := hi.symm.trans hf'; simp at this; exact this.1.symm
        rw [(hS.1 _ _ hc).2.2.2 _ hk, hcl] at hown2
        rw [← e1]; exact Option.some.inj (hown.symm.trans hown2)
      have h6 := u_fits hfc hkC hkind (Or.inr hlay) hi hdt hn.1 hn.2
      refine W.putFinK hx hb hown (hts _ hl) hi hst hcf hin (by rw [q2]; exact h6) q1 q3 (by rw [hsl]; exact k2_hasslot (q4 _ hk)) rfl rfl hd fun H' e1 e2 e3 => ?_
      have := kk H' cell q1 (by rw [← hsl]; exact e1) e2 e3 (fin H' e1)
      rwa [← hsl] at this
end ZFIELDS
end
section
/-! Fields read and set. -/
def z_ld (st : zS) (S : List Nat) (c : zV) (fs : List (Nat × Nat × Nat × Nat)) (es : List (Nat × Nat × Nat)) : zS := (z_L st, z_n st :: S, z_n st + 1, (z_n st, c) :: z_V st, fs ++ z_F st, es ++ z_E st, z_R st, z_X st, z_C st, z_ph st)
def z_getf (TY : List zTy) (FL : List (Nat × Nat × Nat)) (st : zS) (i : Nat) : Option zS := match z_S st, FL.find? (fun q => Nat.beq q.1 i) with
  | d :: S, some q => (match z_ffind st d q.2.1 q.2.2, z_isr st d with
    | some w, true => some (z_stS st (w :: S))
    | none, true => (match z_get (z_V st) d with
      | some (.inr (.inl t)) => (match TY[t]? with
        | some (.inl o) => (match o.2[q.2.2]? with
          | some c => cond (Nat.beq o.1 q.2.1) (some (z_ld st S c [(d, q.2.1, q.2.2, z_n st)] [])) none
          | none => none)
        | _ => none)
      | _ => none)
    | _, _ => none)
  | _, _ => none
def z_wr (st : zS) (S : List Nat) (F : List (Nat × Nat × Nat × Nat)) (E : List (Nat × Nat × Nat)) : zS := (z_L st, S, z_n st, z_V st, F, E, z_R st, z_X st, z_C st, z_ph st)
def z_putf (TY : List zTy) (cl : List vw_C) (FT : Nat → Nat → FieldType) (ini : Option Nat) (FL : List (Nat × Nat × Nat)) (st : zS) (i : Nat) : Option zS := match z_S st, FL.find? (fun q => Nat.beq q.1 i) with
  | v :: d :: S, some q => (match z_get (z_V st) v, cl[q.2.1]? with
    | some c, some r => cond (z_fit (FT q.2.1 q.2.2) c && (!((r.2.1 q.2.2).2.2.2) || (match ini with | some j => Nat.beq j q.2.1 | none => false)) &&
        (match z_get (z_V st) d with
          | some (.inr (.inl t)) => (match TY[t]? with
            | some (.inl o) => (match o.2[q.2.2]? with
              | some c0 => Nat.beq o.1 q.2.1 && z_le c c0 && !((r.2.1 q.2.2).2.2.2) && !(zj_prot TY t) && (zj_slots o.1).all (fun k => !(Nat.beq k q.2.2) && Nat.blt k o.2.length)
              | none => false)
            | _ => false)
          | none => (z_X st).any (fun p => Nat.beq p.1 d && Nat.beq p.2 q.2.1)
          | _ => false))
        (some (z_wr st S ((d, q.2.1, q.2.2, v) :: (z_F st).filter (fun f => z_apt st f.1 d || (Nat.beq f.2.1 q.2.1 && !(Nat.beq f.2.2.1 q.2.2)))) ((z_E st).filter (fun f => z_apt st f.1 d)))) none
    | _, _ => none)
  | _, _ => none
section ZFIELDS2
variable {p : Program} {l : Launch} {e : Env} {R : Room} {s : State} {m : MethodId} {args : Array Value} {below : List Frame} {meth : Method} {c : Code} {Q : State → Prop} {cc : ByteArray} {pc : Nat}
variable {OB : Nat → Nat} {D : va_G} {DA : Nat → ClassId} {cl : List vw_C} {TY : List zTy} {PHI : List (List Nat)} {sz : Nat} {raw : Option Nat} {pu : Bool} {T0 : zTp} {H0 : Heap} {env0 : List Value} {nL : Nat} {st st' : zS} {good : Nat → zS → Prop}
variable {Ts : List Cond} {own : String} {FT : Nat → Nat → FieldType} {FL : List (Nat × Nat × Nat)} {tys : List (ClassId × FieldType)}
variable {T : zTp} {H : Heap} {locs : List Loc} {env : List Value} {ls : Array Slot} {stk : List Value} {cells slots : Nat} {rest : List Value}
theorem z_sat_ld (h : z_sat OB D DA cl TY PHI sz raw pu T0 H0 env0 nL st T H locs env ls stk) {S : List Nat} {k : List Value} (hS : z_stk env S k) {c : zV} {v : Value} (hv : z_v OB T c v) {fs : List (Nat × Nat × Nat × Nat)} (hf : z_ff D cl H (env ++ [v]) fs) {es : List (Nat × Nat × Nat)} (he : z_fe H (env ++ [v]) es) :
    z_sat OB D DA cl TY PHI sz raw pu T0 H0 env0 nL (z_ld st S c fs es) T H locs (env ++ [v]) ls (v :: k) := by
  obtain ⟨h1, h2, h3, h4, h5, h6, h7, h8, h9, h10⟩ := z_sat_psh h hS hv (rs := []) (fun q hq => absurd hq List.not_mem_nil)
  refine ⟨h1, h2, h3, h4, h5, fun q hq => ?_, fun q hq => ?_, h8, h9, h10⟩
  · rcases List.mem_append.mp hq with hq | hq
    · exact hf q hq
    · exact h6 q hq
  · rcases List.mem_append.mp hq with hq | hq
    · exact he q hq
    · exact h7 q hq
theorem z_r_getf (hg : z_Good p l e R s m args below meth c Q OB D DA cl TY PHI sz raw pu T0 H0 env0 nL good) (hx : p.tables.exec = Jvm.exec) (hb : c.code = cc) (hSt : z_St Ts cl FT own FL) (hD : z_Dy s m args Ts own D cl DA tys) {i : Nat} (hd : decode cc pc = .ok (.getfield i, 3)) (h : z_getf TY FL st i = some st') (k : good (pc + 3) st') : good pc st := by
  refine (hg _ _).mpr fun T H locs env ls stk hs => ?_
  unfold z_getf at h
  split at h
  · rename_i d S q hS hq
    have hm := List.mem_of_find?_eq_some hq
    have hi0 := List.find?_some hq
    have hi : q.1 = i := z_beq hi0
    obtain ⟨v, kk, rfl, e1, hk⟩ := z_stk_cons hS hs.2.2.2.1
    split at h
    · rename_i w hw hr
      cases h
      obtain ⟨a, v2, g1, g2, g3⟩ := z_ffind_ok hw hs
      rw [e1] at g1
      cases g1
      exact z_getrow hx hb hSt hD hm g3 (by rw [hi]; exact hd) ((hg _ _).mp k T H locs env ls _ (z_sat_stS hs ⟨_, _, rfl, g2, hk⟩))
    · split at h
      · rename_i t ht
        split at h
        · rename_i o ho
          split at h
          · rename_i c0 hc0
            obtain ⟨hb1, rfl⟩ := z_cond h
            have ho1 := z_beq hb1
            obtain ⟨ci, fl⟩ := o
            have ho1 : ci = q.2.1 := ho1
            subst ho1
            obtain ⟨a, r, V, g1, g2, g3, g4, g5, g6⟩ := z_obj hs ht ho
            rw [e1] at g1
            cases g1
            have hlt : q.2.2 < r.2.2 := by rw [← g4]; exact (List.getElem?_eq_some_iff.mp hc0).1
            have hsl : z_sl H a (D.2 q.2.1 q.2.2) (V q.2.2) := by
              obtain ⟨cell, x1, x2, x3, x4⟩ := g5
              exact ⟨cell, x1, x3, x4 _ hlt⟩
            have hn : (env ++ [V q.2.2])[z_n st]? = some (V q.2.2) := by rw [← hs.1]; simp
            refine z_getrow hx hb hSt hD hm hsl (by rw [hi]; exact hd) ((hg _ _).mp k T H locs _ ls _ (z_sat_ld hs hk (g6 _ _ hc0) (fun f hf => ?_) (fun f hf => absurd hf List.not_mem_nil)))
            rw [List.mem_singleton.mp hf]
            exact ⟨a, _, r, z_app e1, hn, g3, hlt, hsl⟩
          · cases h
        · cases h
      · cases h
    · cases h
  · cases h
theorem z_sl_kept0 {H1 : Heap} {a k : Nat} {w : Value} (h : z_sl H a k w) (e : H1[a]? = H[a]?) : z_sl H1 a k w := by
  obtain ⟨cell, h1, h2, h3⟩ := h
  exact ⟨cell, by rw [e]; exact h1, h2, h3⟩
/-- a typed cell is written -/
theorem z_mem_set (hpu : pu = false) {ph k : Nat} {H1 : Heap} {a t : Nat} {ty : zTy} (h : z_mem OB D DA cl TY PHI sz raw pu T0 H0 T H locs ph) (ht : T a = some t) (hty : TY[t]? = some ty) (hc : z_cell OB D DA cl T H1 a ty) (hz : H1.size = H.size) (oq : ∀ b : Nat, b ≠ a → H1[b]? = H[b]?) (hfw : ∀ ci fl r k w, ty = .inl (ci, fl) → cl[ci]? = some r → k < r.2.2 → (r.2.1 k).2.2.2 = true → z_sl H a (D.2 ci k) w → z_sl H1 a (D.2 ci k) w) (hJ : z_J D DA TY T H1) : z_mem OB D DA cl TY PHI sz raw pu T0 H0 T H1 (locs ++ [⟨a, k⟩]) ph := by
  obtain ⟨h1, h2, h3, h4, h5⟩ := h
  refine ⟨⟨fun b u hb => ?_, hJ⟩, ⟨h2.1, (fun h => by rw [hpu] at h; cases h), z_fin_tr h2.2.2 fun b u ci fl hb hty2 => ⟨u, fl, hb, hty2, fun r k2 w x1 x2 x3 x4 => ?_⟩⟩, h3, fun q hq1 hq2 hq3 => ?_, h5.put hz oq (h2.1 a t ht)⟩
  · by_cases e : b = a
    · subst e
      rw [ht] at hb
      cases hb
      exact ⟨ty, hty, hc⟩
    · obtain ⟨ty2, g1, g2⟩ := h1.1 b u hb
      exact ⟨ty2, g1, z_cell_kept g2 (oq b e)⟩
  · by_cases e : b = a
    · subst e
      rw [ht] at hb
      cases hb
      rw [hty] at hty2
      exact hfw ci fl r k2 w (Option.some.inj hty2) x1 x2 x3 x4
    · exact z_sl_kept0 x4 (oq b e)
  · obtain ⟨g1, g2⟩ := h4 q hq1 hq2 hq3
    refine ⟨g1, ?_⟩
    rw [oq q (fun e => by subst e; rw [g1] at ht; cases ht)]
    exact g2
/-- a raw cell is written -/
theorem z_mem_setX (hpu : pu = false) {ph k : Nat} {H1 : Heap} {a : Nat} (h : z_mem OB D DA cl TY PHI sz raw pu T0 H0 T H locs ph) (ht : T a = none) (ha : sz ≤ a ∧ (H0.size ≤ a ∨ raw = some a)) (hz : H1.size = H.size) (oq : ∀ b : Nat, b ≠ a → H1[b]? = H[b]?) : z_mem OB D DA cl TY PHI sz raw pu T0 H0 T H1 (locs ++ [⟨a, k⟩]) ph := by
  obtain ⟨h1, h2, h3, h4, h5⟩ := h
  refine ⟨⟨fun b u hb => ?_, zJ_raw h1.2 ht oq⟩, ⟨h2.1, (fun h => by rw [hpu] at h; cases h), z_fin_tr h2.2.2 fun b u ci fl hb hty2 => ⟨u, fl, hb, hty2, fun r k2 w x1 x2 x3 x4 => z_sl_kept0 x4 (oq b (fun e => by subst e; rw [hb] at ht; cases ht))⟩⟩, h3, fun q hq1 hq2 hq3 => ?_, h5.put hz oq ha.1⟩
  · obtain ⟨ty2, g1, g2⟩ := h1.1 b u hb
    exact ⟨ty2, g1, z_cell_kept g2 (oq b (fun e => by subst e; rw [hb] at ht; cases ht))⟩
  · obtain ⟨g1, g2⟩ := h4 q hq1 hq2 hq3
    refine ⟨g1, ?_⟩
    rw [oq q (fun e => by
      subst e
      rcases ha.2 with h | h
      · omega
      · exact hq3 h)]
    exact g2
theorem z_fx_upd {n0 : Nat} {H1 : Heap} {a : Nat} (oq : ∀ b : Nat, b ≠ a → H1[b]? = H[b]?) (ha : ∀ (cC : ClassId) (N : Nat) (iS : Nat → Nat) (V : Nat → Value), t_OB a cC N iS H V → ∃ V', t_OB a cC N iS H1 V') : ∀ {X : List (Nat × Nat)}, z_fx D cl T sz n0 raw H env X → z_fx D cl T sz n0 raw H1 env X
  | [], h => h
  | x :: X, ⟨⟨b, h1, h2, h3, ⟨r, V, h4, h4b⟩, h5⟩, hr⟩ => by
    refine ⟨⟨b, h1, h2, h3, ?_, h5⟩, z_fx_upd oq ha hr⟩
    by_cases e : b = a
    · subst e
      obtain ⟨V', hV⟩ := ha _ _ _ _ h4b
      exact ⟨r, V', h4, hV⟩
    · exact ⟨r, V, h4, h4b.kept (oq b e)⟩
theorem z_r_putf (hpu : pu = false) (hg : z_Good p l e R s m args below meth c Q OB D DA cl TY PHI sz raw pu T0 H0 env0 nL good) (hx : p.tables.exec = Jvm.exec) (hb : c.code = cc) (hSt : z_St Ts cl FT own FL) (hD : z_Dy s m args Ts own D cl DA tys) {ini : Option Nat} (hini : ∀ j r, ini = some j → cl[j]? = some r → meth.name = "<init>" ∧ r.1 = own) {i : Nat} (hd : decode cc pc = .ok (.putfield i, 3)) (h : z_putf TY cl FT ini FL st i = some st') (k : good (pc + 3) st') : good pc st := by
  refine (hg _ _).mpr fun T H locs env ls stk hs => ?_
  unfold z_putf at h
  split at h
  · rename_i v d S q hS hq
    have hm := List.mem_of_find?_eq_some hq
    have hi0 := List.find?_some hq
    have hi : q.1 = i := z_beq hi0
    split at h
    · rename_i c1 r hc1 hr
      obtain ⟨hcc, rfl⟩ := z_cond h
      simp only [Bool.and_eq_true] at hcc
      obtain ⟨⟨hfit, hfin0⟩, hcase⟩ := hcc
      obtain ⟨vv, kk, rfl, e1, hk⟩ := z_stk_cons hS hs.2.2.2.1
      obtain ⟨vd, k2, rfl, e2, hk2⟩ := hk
      obtain ⟨w, e3, hw⟩ := z_get_ok hs.2.2.2.2.1 hc1
      have hvw : vv = w := Option.some.inj (e1.symm.trans e3)
      subst hvw
      have hnf := z_fit_ok hfit hw
      have hfin : (r.2.1 q.2.2).2.2.2 = false ∨ (meth.name = "<init>" ∧ r.1 = own) := by
        rw [Bool.or_eq_true] at hfin0
        rcases hfin0 with h1 | h1
        · exact Or.inl (by simpa using h1)
        · cases hin : ini with
          | none => rw [hin] at h1; cases h1
          | some j =>
            rw [hin] at h1
            have := z_beq h1
            subst this
            exact Or.inr (hini _ r hin hr)
      have fin : ∀ (a : Nat) (V : Nat → Value) (H1 : Heap) (cell : Cell), env[d]? = some (.ref a) → t_OB a (D.1 q.2.1) r.2.2 (D.2 q.2.1) H V → q.2.2 < r.2.2 → H[a]? = some cell → H1[a]? = some (cell.setSlot (D.2 q.2.1 q.2.2) vv) → H1.size = H.size → (∀ b : Nat, b ≠ a → H1[b]? = H[b]?) → t_OB a (D.1 q.2.1) r.2.2 (D.2 q.2.1) H1 (updV V q.2.2 vv) →
          z_mem OB D DA cl TY PHI sz raw pu T0 H0 T H1 (locs ++ [⟨a, D.2 q.2.1 q.2.2⟩]) (z_ph st) → W p l e R s m args below meth c H1 (locs ++ [⟨a, D.2 q.2.1 q.2.2⟩]) (z_C st).1 (z_C st).2 Q (F0 m (pc + 3) ls k2) := by
        intro a V H1 cell g1 g2 glt g3 g4 g5 g6 g7 g8
        refine (hg _ _).mp k T H1 _ env ls k2 ⟨hs.1, hs.2.1, hs.2.2.1, hk2, hs.2.2.2.2.1, fun f hf => ?_, fun f hf => ?_, hs.2.2.2.2.2.2.2.1, z_fx_upd g6 (fun cC N iS V2 h2 => z_ob_set h2 g3 g4) hs.2.2.2.2.2.2.2.2.1, g8⟩
        · rcases List.mem_cons.mp hf with rfl | hf
          · refine ⟨a, vv, r, g1, e1, hr, glt, ?_⟩
            obtain ⟨cell2, x1, x2, x3, x4⟩ := g7
            refine ⟨cell2, x1, x3, ?_⟩
            rw [x4 _ glt]
            simp [updV]
          · obtain ⟨hf1, hf2⟩ := List.mem_filter.mp hf
            obtain ⟨b, u, r2, y1, y2, y3, y4, y5⟩ := hs.2.2.2.2.2.1 f hf1
            refine ⟨b, u, r2, y1, y2, y3, y4, ?_⟩
            rw [Bool.or_eq_true] at hf2
            rcases hf2 with h1 | h1
            · exact z_sl_kept y5 (g6 b (z_apt_ok h1 hs y1 g1))
            · simp only [Bool.and_eq_true, Bool.not_eq_true'] at h1
              have ec := z_beq h1.1
              rw [ec] at y3 y5 ⊢
              rw [hr] at y3
              cases y3
              have hne : f.2.2.1 ≠ q.2.2 := by
                intro h3
                rw [h3] at h1
                simp at h1
              by_cases hba : b = a
              · subst hba
                obtain ⟨cell3, z1, z2, z3⟩ := y5
                rw [g3] at z1
                cases z1
                refine ⟨_, g4, z2, ?_⟩
                rw [slot_ne _ _ (z_apart hSt hD hr _ _ glt y4 (fun h => hne h.symm))]
                exact z3
              · exact z_sl_kept y5 (g6 b hba)
        · obtain ⟨hf1, hf2⟩ := List.mem_filter.mp hf
          obtain ⟨b, x, u, y1, y2, y3, y4, y5⟩ := hs.2.2.2.2.2.2.1 f hf1
          exact ⟨b, x, u, y1, y2, y3, y4, z_sl_kept y5 (g6 b (z_apt_ok hf2 hs y1 g1))⟩
      split at hcase
      · rename_i t ht
        split at hcase
        · rename_i o ho
          split at hcase
          · rename_i c0 hc0
            simp only [Bool.and_eq_true] at hcase
            obtain ⟨⟨⟨hcase, hnfin⟩, hprot⟩, hslots⟩ := hcase
            obtain ⟨ci, fl⟩ := o
            have ho1 : ci = q.2.1 := z_beq hcase.1
            subst ho1
            obtain ⟨a, r2, V, g1, g2, g3, g4, g5, g6⟩ := z_obj hs ht ho
            rw [hr] at g3
            cases g3
            rw [e2] at g1
            cases g1
            have hlt : q.2.2 < r.2.2 := by rw [← g4]; exact (List.getElem?_eq_some_iff.mp hc0).1
            refine z_putrow hx hb hSt hD hm hr g5 hfin hnf (by rw [hi]; exact hd) fun H1 cell x1 x2 x3 x4 x5 => ?_
            refine fin a V H1 cell e2 g5 hlt x1 x2 x3 x4 x5 (z_mem_set hpu hs.2.2.2.2.2.2.2.2.2 g2 ho ⟨r, hr, g4, _, x5, fun j c2 hj => ?_⟩ x3 x4 (fun ci2 fl2 r2 k2 w2 z1 z2 z3 z4 z5 => ?_) (zJ_set hs.2.2.2.2.2.2.2.2.2.1.2 hs.2.2.2.2.2.2.2.2.2.1.1 g2 (by simpa using hprot) x4 (fun ci2 fl2 hh k2 hk2 w2 hw2 => by
              rw [ho] at hh
              cases hh
              have hk3 := List.all_eq_true.mp hslots k2 hk2
              simp only [Bool.and_eq_true, Bool.not_eq_true'] at hk3
              have hkne : k2 ≠ q.2.2 := fun h => by rw [h, Nat.beq_refl] at hk3; cases hk3.1
              have hk4 : k2 < r.2.2 := by rw [← g4]; exact z_blt hk3.2
              obtain ⟨cell3, u1, u2, u3⟩ := hw2
              rw [x1] at u1
              cases u1
              refine ⟨_, x2, u2, ?_⟩
              rw [slot_ne _ _ (z_apart hSt hD hr _ _ hlt hk4 (fun h => hkne h.symm))]
              exact u3)))
            rotate_left
            · cases z1
              rw [hr] at z2
              cases z2
              have hkne : k2 ≠ q.2.2 := fun h => by rw [h] at z4; rw [z4] at hnfin; cases hnfin
              obtain ⟨cell3, u1, u2, u3⟩ := z5
              rw [x1] at u1
              cases u1
              refine ⟨_, x2, u2, ?_⟩
              rw [slot_ne _ _ (z_apart hSt hD hr _ _ hlt z3 (fun h => hkne h.symm))]
              exact u3
            by_cases hjk : j = q.2.2
            · subst hjk
              have hj : fl[q.2.2]? = some c2 := hj
              have hc0 : fl[q.2.2]? = some c0 := hc0
              rw [hc0] at hj
              cases hj
              have : updV V q.2.2 vv q.2.2 = vv := by simp [updV]
              rw [this]
              exact z_le_ok hcase.2 hw
            · have : updV V q.2.2 vv j = V j := by simp [updV, hjk]
              rw [this]
              exact g6 j c2 hj
          · cases hcase
        · cases hcase
      · rename_i hn
        obtain ⟨x, hx1, hx2⟩ := List.any_eq_true.mp hcase
        rw [Bool.and_eq_true] at hx2
        obtain ⟨a, g1, g2, g3, r2, V, g4, g5⟩ := z_fx_in hs.2.2.2.2.2.2.2.2.1 x hx1
        rw [z_beq hx2.1, e2] at g1
        cases g1
        rw [z_beq hx2.2] at g4 g5
        rw [hr] at g4
        cases g4
        have hlt : q.2.2 < r.2.2 := by
          obtain ⟨r3, y1, y2, _⟩ := hSt.2 q hm
          rw [hr] at y1
          cases y1
          exact y2
        refine z_putrow hx hb hSt hD hm hr g5 hfin hnf (by rw [hi]; exact hd) fun H1 cell x1 x2 x3 x4 x5 => ?_
        exact fin a V H1 cell e2 g5 hlt x1 x2 x3 x4 x5 (z_mem_setX hpu hs.2.2.2.2.2.2.2.2.2 g2 g3 x3 x4)
      · cases hcase
    · cases h
  · cases h
end ZFIELDS2
end
section
/-! Arrays read and written. -/
def z_seg (sg : List ((Nat × Nat) × zV)) (r : zR) : Option zV := (sg.find? (fun g => z_ile (g.1.1 : Int) r.1 && z_ile r.2 (g.1.2 : Int))).map (fun g => g.2)
def z_ald (TY : List zTy) (ek : Nat) (st : zS) : Option zS := match z_S st with
  | j :: d :: S => (match z_get (z_V st) j, z_get (z_V st) d with
    | some (.inl r), some (.inr (.inl t)) => (match TY[t]? with
      | some (.inr q) => cond (Nat.beq q.1 ek && z_ile 0 r.1 && z_ile (r.2 + 1) (q.2.1.1 : Int)) (match z_efind st d j with
        | some w => some (z_stS st (w :: S))
        | none => (match z_seg q.2.2 r with
          | some c => some (z_ld st S c [] [(d, j, z_n st)])
          | none => none)) none
      | _ => none)
    | _, _ => none)
  | _ => none
/-- what an array keeps of a value -/
def z_kep (ek : Nat) (c : zV) : Option zV := match ek, c with
  | 0, .inl r => some (.inl r)
  | 1, .inl r => some (.inl (z_i2b r))
  | 2, .inr (.inr 0) => some (.inr (.inr 0))
  | _, _ => none
def z_ast (TY : List zTy) (RO : List Nat) (ek : Nat) (st : zS) : Option zS := match z_S st with
  | v :: j :: d :: S => (match z_get (z_V st) j, z_get (z_V st) d, (z_get (z_V st) v).bind (z_kep ek) with
    | some (.inl r), some (.inr (.inl t)), some cv => (match TY[t]? with
      | some (.inr q) => cond (Nat.beq q.1 ek && z_ile 0 r.1 && z_ile (r.2 + 1) (q.2.1.1 : Int) && (!(RO.any (fun x => Nat.beq x t)) && !(zj_prot TY t)) && q.2.2.all (fun g => z_ile (r.2 + 1) (g.1.1 : Int) || z_ile ((g.1.2 : Int) + 1) r.1 || z_le cv g.2))
          (some (z_wr st S ((z_F st).filter (fun f => z_apt st f.1 d)) (cond (Nat.beq ek 1) [] [(d, j, v)] ++ (z_E st).filter (fun f => z_apt st f.1 d || z_dis st f.2.1 j)))) none
      | _ => none)
    | _, _, _ => none)
  | _ => none
def z_alen (TY : List zTy) (st : zS) : Option zS := match z_S st with
  | d :: S => (match z_get (z_V st) d with
    | some (.inr (.inl t)) => (match TY[t]? with
      | some (.inr q) => cond (Nat.ble q.1 2) (some (z_psh st S (.inl ((q.2.1.1 : Int), (q.2.1.2 : Int))) [])) none
      | _ => none)
    | _ => none)
  | _ => none
section ZARRAYS
variable {p : Program} {l : Launch} {e : Env} {R : Room} {s : State} {m : MethodId} {args : Array Value} {below : List Frame} {meth : Method} {c : Code} {Q : State → Prop} {cc : ByteArray} {pc : Nat}
variable {OB : Nat → Nat} {D : va_G} {DA : Nat → ClassId} {cl : List vw_C} {TY : List zTy} {PHI : List (List Nat)} {sz : Nat} {raw : Option Nat} {pu : Bool} {T0 : zTp} {H0 : Heap} {env0 : List Value} {nL : Nat} {st st' : zS} {good : Nat → zS → Prop}
variable {Ts : List Cond} {own : String} {tys : List (ClassId × FieldType)} {RO : List Nat}
variable {T : zTp} {H : Heap} {locs : List Loc} {env : List Value} {ls : Array Slot} {stk : List Value} {cells slots : Nat} {rest : List Value}
theorem z_isarr (hD : z_Dy s m args Ts own D cl DA tys) {k : Nat} (hk : k < 3) (n : Nat) (f : Nat → Value) : s.isArrayOf (arrV (DA k) n f) (z_ek k) := (hD.2.2.1.2 k _ (hD.2.2.2 k hk)).1 n f
theorem z_clamp (x : Int32) : x.toNatClampNeg = x.toInt.toNat := rfl
theorem z_vpin {x : Int32} {r : zR} {lo n : Nat} (hx : z_in r x) (h0 : z_ile 0 r.1 = true) (h1 : z_ile (r.2 + 1) (lo : Int) = true) (hn : lo ≤ n) : ¬ (x < 0 ∨ n ≤ x.toNatClampNeg) ∧ 0 ≤ x.toInt ∧ x.toInt.toNat < n := by
  have q0 := z_ile_ok h0
  have q1 := z_ile_ok h1
  obtain ⟨x1, x2⟩ := hx
  refine ⟨fun h => ?_, by omega, by omega⟩
  rcases h with h | h
  · have := Int32.lt_iff_toInt_lt.mp h
    have z0 : (0 : Int32).toInt = 0 := rfl
    omega
  · rw [z_clamp] at h; omega
/-- an entry is read -/
theorem z_ald_ok {ek : Nat} (hek : ek < 3) (hD : z_Dy s m args Ts own D cl DA tys) (h : z_ald TY ek st = some st') (hs : z_sat OB D DA cl TY PHI sz raw pu T0 H0 env0 nL st T H locs env ls stk) :
    ∃ (a n : Nat) (f : Nat → Value) (x : Int32) (k : List Value) (env' : List Value), stk = .int x :: .ref a :: k ∧ H[a]? = some (arrV (DA ek) n f) ∧ ¬ (x < 0 ∨ n ≤ x.toNatClampNeg) ∧ z_C st' = z_C st ∧ (arrV (DA ek) n f).slots[x.toNatClampNeg]? = some (f x.toNatClampNeg) ∧
      z_sat OB D DA cl TY PHI sz raw pu T0 H0 env0 nL st' T H locs env' ls (f x.toNatClampNeg :: k) := by
  unfold z_ald at h
  split at h
  · rename_i j d S hS
    split at h
    · rename_i r t hj ht
      split at h
      · rename_i q hq
        cases hc : (Nat.beq q.1 ek && z_ile 0 r.1 && z_ile (r.2 + 1) (q.2.1.1 : Int)) with
        | false => rw [hc] at h; cases h
        | true =>
          rw [hc] at h
          simp only [Bool.and_eq_true] at hc
          obtain ⟨⟨hc1, hc2⟩, hc3⟩ := hc
          obtain ⟨ek2, ⟨lo, hi⟩, sg⟩ := q
          have he : ek2 = ek := z_beq hc1
          subst he
          obtain ⟨vj, k1, rfl, e1, hk1⟩ := z_stk_cons hS hs.2.2.2.1
          obtain ⟨vd, k2, rfl, e2, hk2⟩ := hk1
          obtain ⟨a, n, f, g1, g2, g3, g4, g5, g6, g7⟩ := z_arr hs ht hq
          obtain ⟨w, e3, x, rfl, hx⟩ := z_get_ok hs.2.2.2.2.1 hj
          have q1 : vj = .int x := Option.some.inj (e1.symm.trans e3)
          have q2 : vd = .ref a := Option.some.inj (e2.symm.trans g1)
          subst q1; subst q2
          obtain ⟨b1, b2, b3⟩ := z_vpin hx hc2 hc3 g4
          have hread := arrV_read (DA ek2) f b3
          have hsl : z_sl H a x.toInt.toNat (f x.toInt.toNat) := ⟨_, g3, rfl, hread⟩
          have h : (match z_efind st d j with
            | some w => some (z_stS st (w :: S))
            | none => (match z_seg sg r with
              | some c => some (z_ld st S c [] [(d, j, z_n st)])
              | none => none)) = some st' := h
          cases hf : z_efind st d j with
          | some w =>
            rw [hf] at h
            cases h
            obtain ⟨a2, v2, y1, y2, y3, cell, y4, y5, y6⟩ := z_efind_ok hf hs e3
            rw [g1] at y1
            cases y1
            rw [g3] at y4
            cases y4
            rw [hread] at y6
            cases y6
            exact ⟨a, n, f, x, k2, env, rfl, g3, b1, rfl, hread, z_sat_stS hs ⟨_, _, rfl, y2, hk2⟩⟩
          | none =>
            rw [hf] at h
            cases hsg : z_seg sg r with
            | none => rw [hsg] at h; cases h
            | some c1 =>
              rw [hsg] at h
              cases h
              unfold z_seg at hsg
              cases hfi : sg.find? (fun g => z_ile (g.1.1 : Int) r.1 && z_ile r.2 (g.1.2 : Int)) with
              | none => rw [hfi] at hsg; cases hsg
              | some g =>
                rw [hfi] at hsg
                cases hsg
                have hm := List.mem_of_find?_eq_some hfi
                have hp := List.find?_some hfi
                rw [Bool.and_eq_true] at hp
                have p1 := z_ile_ok hp.1
                have p2 := z_ile_ok hp.2
                obtain ⟨x1, x2⟩ := hx
                have hv := g7 g hm x.toInt.toNat b3 (by omega) (by omega)
                refine ⟨a, n, f, x, k2, _, rfl, g3, b1, rfl, hread, z_sat_ld hs hk2 hv (fun f hf => absurd hf List.not_mem_nil) (fun f2 hf2 => ?_)⟩
                rw [List.mem_singleton.mp hf2]
                exact ⟨a, x, _, z_app g1, z_app e3, b2, by rw [← hs.1]; simp, hsl⟩
      · cases h
    · cases h
  · cases h
theorem z_r_iald (hg : z_Good p l e R s m args below meth c Q OB D DA cl TY PHI sz raw pu T0 H0 env0 nL good) (hx : p.tables.exec = Jvm.exec) (hb : c.code = cc) (hD : z_Dy s m args Ts own D cl DA tys) (hd : decode cc pc = .ok (.iaload, 1)) (h : z_ald TY 0 st = some st') (k : good (pc + 1) st') : good pc st := by
  refine (hg _ _).mpr fun T H locs env ls stk hs => ?_
  obtain ⟨a, n, f, x, k2, env', rfl, h1, h2, h3, h4, h5⟩ := z_ald_ok (by omega) hD h hs
  refine W.iald hx hb h1 (z_isarr hD (k := 0) (by omega) n f) (fun q => by cases q) (by rw [arrV_size]; exact h2) h4 rfl rfl hd ?_
  have kk := (hg _ _).mp k T H locs env' ls _ h5
  rwa [h3] at kk
theorem z_r_bald (hg : z_Good p l e R s m args below meth c Q OB D DA cl TY PHI sz raw pu T0 H0 env0 nL good) (hx : p.tables.exec = Jvm.exec) (hb : c.code = cc) (hD : z_Dy s m args Ts own D cl DA tys) (hd : decode cc pc = .ok (.baload, 1)) (h : z_ald TY 1 st = some st') (k : good (pc + 1) st') : good pc st := by
  refine (hg _ _).mpr fun T H locs env ls stk hs => ?_
  obtain ⟨a, n, f, x, k2, env', rfl, h1, h2, h3, h4, h5⟩ := z_ald_ok (by omega) hD h hs
  refine W.bald hx hb h1 (z_isarr hD (k := 1) (by omega) n f) (fun q => by cases q) (by rw [arrV_size]; exact h2) h4 rfl rfl hd ?_
  have kk := (hg _ _).mp k T H locs env' ls _ h5
  rwa [h3] at kk
theorem z_r_lald (hg : z_Good p l e R s m args below meth c Q OB D DA cl TY PHI sz raw pu T0 H0 env0 nL good) (hx : p.tables.exec = Jvm.exec) (hb : c.code = cc) (hD : z_Dy s m args Ts own D cl DA tys) (hd : decode cc pc = .ok (.laload, 1)) (h : z_ald TY 2 st = some st') (k : good (pc + 1) st') : good pc st := by
  refine (hg _ _).mpr fun T H locs env ls stk hs => ?_
  obtain ⟨a, n, f, x, k2, env', rfl, h1, h2, h3, h4, h5⟩ := z_ald_ok (by omega) hD h hs
  refine W.lald hx hb h1 (z_isarr hD (k := 2) (by omega) n f) (fun q => by cases q) (by rw [arrV_size]; exact h2) h4 rfl rfl hd ?_
  have kk := (hg _ _).mp k T H locs env' ls _ h5
  rwa [h3] at kk
/-- an entry is set -/
theorem z_ast_ok (hpu : pu = false) {ek : Nat} (hek : ek < 3) (h : z_ast TY RO ek st = some st') (hs : z_sat OB D DA cl TY PHI sz raw pu T0 H0 env0 nL st T H locs env ls stk) :
    ∃ (a n : Nat) (f : Nat → Value) (x : Int32) (k : List Value) (v : Value), stk = v :: .int x :: .ref a :: k ∧ (ek < 2 → ∃ y : Int32, v = .int y) ∧ (ek = 2 → ∃ y : Int64, v = .long y) ∧ H[a]? = some (arrV (DA ek) n f) ∧ ¬ (x < 0 ∨ n ≤ x.toNatClampNeg) ∧ z_C st' = z_C st ∧
      ∀ H1 : Heap, H1[a]? = some ((arrV (DA ek) n f).setSlot x.toNatClampNeg (narrow (z_ek ek) v)) → H1.size = H.size → (∀ b : Nat, b ≠ a → H1[b]? = H[b]?) → z_sat OB D DA cl TY PHI sz raw pu T0 H0 env0 nL st' T H1 (locs ++ [⟨a, x.toNatClampNeg⟩]) env ls k := by
  unfold z_ast at h
  split at h
  · rename_i v j d S hS
    split at h
    · rename_i r t cv hj ht hcv
      split at h
      · rename_i q hq
        obtain ⟨hc, rfl⟩ := z_cond h
        simp only [Bool.and_eq_true] at hc
        obtain ⟨⟨⟨⟨hc1, hc2⟩, hc3⟩, hc4⟩, hc5⟩ := hc
        obtain ⟨ek2, ⟨lo, hi⟩, sg⟩ := q
        have he : ek2 = ek := z_beq hc1
        subst he
        obtain ⟨vv, k0, rfl, e0, hk0⟩ := z_stk_cons hS hs.2.2.2.1
        obtain ⟨vj, k1, rfl, e1, hk1⟩ := hk0
        obtain ⟨vd, k2, rfl, e2, hk2⟩ := hk1
        obtain ⟨a, n, f, g1, g2, g3, g4, g5, g6, g7⟩ := z_arr hs ht hq
        obtain ⟨w, e3, x, rfl, hx⟩ := z_get_ok hs.2.2.2.2.1 hj
        have q1 : vj = .int x := Option.some.inj (e1.symm.trans e3)
        have q2 : vd = .ref a := Option.some.inj (e2.symm.trans g1)
        subst q1; subst q2
        obtain ⟨b1, b2, b3⟩ := z_vpin hx hc2 hc3 g4
        cases hgv : z_get (z_V st) v with
        | none => rw [hgv] at hcv; cases hcv
        | some c0 =>
          rw [hgv] at hcv
          have hcv : z_kep ek2 c0 = some cv := hcv
          obtain ⟨w2, e4, hw2⟩ := z_get_ok hs.2.2.2.2.1 hgv
          have q3 : vv = w2 := Option.some.inj (e0.symm.trans e4)
          subst q3
          have hval : (ek2 < 2 → ∃ y : Int32, vv = .int y) ∧ (ek2 = 2 → ∃ y : Int64, vv = .long y) ∧ z_v OB T cv (narrow (z_ek ek2) vv) ∧ (ek2 ≠ 1 → narrow (z_ek ek2) vv = vv) := by
            match ek2, c0, hcv, hw2 with
            | 0, .inl r0, hcv, hw2 =>
              cases hcv
              obtain ⟨y, rfl, hy⟩ := hw2
              exact ⟨fun _ => ⟨y, rfl⟩, fun h => (by cases h), ⟨y, rfl, hy⟩, fun _ => rfl⟩
            | 1, .inl r0, hcv, hw2 =>
              cases hcv
              obtain ⟨y, rfl, hy⟩ := hw2
              exact ⟨fun _ => ⟨y, rfl⟩, fun h => (by cases h), ⟨_, rfl, z_i2b_ok hy⟩, fun h => absurd rfl h⟩
            | 2, .inr (.inr 0), hcv, hw2 =>
              cases hcv
              obtain ⟨y, rfl⟩ := hw2
              exact ⟨fun h => absurd h (by omega), fun _ => ⟨y, rfl⟩, ⟨y, rfl⟩, fun _ => rfl⟩
          obtain ⟨v1, v2, v3, v4⟩ := hval
          refine ⟨a, n, f, x, k2, vv, rfl, v1, v2, g3, b1, rfl, fun H1 h1 h2 h3 => ?_⟩
          have h1' : H1[a]? = some (arrV (DA ek2) n (updV f x.toNatClampNeg (narrow (z_ek ek2) vv))) := by rw [h1, arrV_store]
          have hcell : z_cell OB D DA cl T H1 a (.inr (ek2, (lo, hi), sg)) := by
            refine ⟨n, _, h1', g4, g5, g6, fun g hg i hi1 hi2 hi3 => ?_⟩
            by_cases hie : i = x.toNatClampNeg
            · have : updV f x.toNatClampNeg (narrow (z_ek ek2) vv) i = narrow (z_ek ek2) vv := by simp [updV, hie]
              rw [this]
              have hall := List.all_eq_true.mp hc5 g hg
              simp only [Bool.or_eq_true] at hall
              rw [z_clamp] at hie
              obtain ⟨x1, x2⟩ := hx
              rcases hall with (h5 | h5) | h5
              · have := z_ile_ok h5; omega
              · have := z_ile_ok h5; omega
              · exact z_le_ok h5 v3
            · have : updV f x.toNatClampNeg (narrow (z_ek ek2) vv) i = f i := by simp [updV, hie]
              rw [this]
              exact g7 g hg i hi1 hi2 hi3
          refine ⟨hs.1, hs.2.1, hs.2.2.1, hk2, hs.2.2.2.2.1, fun f1 hf => ?_, fun f1 hf => ?_, hs.2.2.2.2.2.2.2.1, z_fx_upd h3 (fun cC N iS V2 h5 => z_ob_set h5 g3 h1) hs.2.2.2.2.2.2.2.2.1, z_mem_set hpu hs.2.2.2.2.2.2.2.2.2 g2 hq hcell h2 h3 (fun _ _ _ _ _ hh => by cases hh) (zJ_set hs.2.2.2.2.2.2.2.2.2.1.2 hs.2.2.2.2.2.2.2.2.2.1.1 g2 (by simpa using hc4.2) h3 (fun ci fl hh => by rw [hq] at hh; cases hh))⟩
          · obtain ⟨hf1, hf2⟩ := List.mem_filter.mp hf
            obtain ⟨b, u, r2, y1, y2, y3, y4, y5⟩ := hs.2.2.2.2.2.1 f1 hf1
            exact ⟨b, u, r2, y1, y2, y3, y4, z_sl_kept y5 (h3 b (z_apt_ok hf2 hs y1 g1))⟩
          · rcases List.mem_append.mp hf with hf | hf
            · cases hb1 : Nat.beq ek2 1 with
              | true => rw [hb1] at hf; exact absurd hf List.not_mem_nil
              | false =>
                rw [hb1] at hf
                rw [List.mem_singleton.mp hf]
                have hne : ek2 ≠ 1 := fun h => by rw [h] at hb1; cases hb1
                refine ⟨a, x, vv, g1, e3, b2, e4, _, h1', rfl, ?_⟩
                rw [arrV_read _ _ b3, v4 hne]
                show some (if x.toInt.toNat = x.toNatClampNeg then vv else _) = _
                rw [if_pos (z_clamp x).symm]
            · obtain ⟨hf1, hf2⟩ := List.mem_filter.mp hf
              obtain ⟨b, x2, u, y1, y2, y3, y4, y5⟩ := hs.2.2.2.2.2.2.1 f1 hf1
              refine ⟨b, x2, u, y1, y2, y3, y4, ?_⟩
              rw [Bool.or_eq_true] at hf2
              rcases hf2 with h5 | h5
              · exact z_sl_kept y5 (h3 b (z_apt_ok h5 hs y1 g1))
              · by_cases hba : b = a
                · subst hba
                  have hxx := z_dis_ok h5 hs y2 e3
                  obtain ⟨cell, z1, z2, z3⟩ := y5
                  rw [g3] at z1
                  cases z1
                  refine ⟨_, h1, rfl, ?_⟩
                  rw [slot_ne _ _ (fun h6 => hxx (by rw [z_clamp] at h6; omega))]
                  exact z3
                · exact z_sl_kept y5 (h3 b hba)
      · cases h
    · cases h
  · cases h
theorem z_r_iast (hpu : pu = false) (hg : z_Good p l e R s m args below meth c Q OB D DA cl TY PHI sz raw pu T0 H0 env0 nL good) (hx : p.tables.exec = Jvm.exec) (hb : c.code = cc) (hD : z_Dy s m args Ts own D cl DA tys) (hd : decode cc pc = .ok (.iastore, 1)) (h : z_ast TY RO 0 st = some st') (k : good (pc + 1) st') : good pc st := by
  refine (hg _ _).mpr fun T H locs env ls stk hs => ?_
  obtain ⟨a, n, f, x, k2, v, rfl, h0, -, h1, h2, h3, h4⟩ := z_ast_ok hpu (by omega) h hs
  obtain ⟨y, rfl⟩ := h0 (by omega)
  refine W.iast hx hb h1 (z_isarr hD (k := 0) (by omega) n f) (fun q => by cases q) (by rw [arrV_size]; exact h2) rfl rfl hd fun H1 e1 e2 e3 => ?_
  have kk := (hg _ _).mp k T H1 _ env ls _ (h4 H1 e1 e2 e3)
  rwa [h3] at kk
theorem z_r_bast (hpu : pu = false) (hg : z_Good p l e R s m args below meth c Q OB D DA cl TY PHI sz raw pu T0 H0 env0 nL good) (hx : p.tables.exec = Jvm.exec) (hb : c.code = cc) (hD : z_Dy s m args Ts own D cl DA tys) (hd : decode cc pc = .ok (.bastore, 1)) (h : z_ast TY RO 1 st = some st') (k : good (pc + 1) st') : good pc st := by
  refine (hg _ _).mpr fun T H locs env ls stk hs => ?_
  obtain ⟨a, n, f, x, k2, v, rfl, h0, -, h1, h2, h3, h4⟩ := z_ast_ok hpu (by omega) h hs
  obtain ⟨y, rfl⟩ := h0 (by omega)
  refine W.bast hx hb h1 (z_isarr hD (k := 1) (by omega) n f) (fun q => by cases q) (by rw [arrV_size]; exact h2) rfl rfl hd fun H1 e1 e2 e3 => ?_
  have kk := (hg _ _).mp k T H1 _ env ls _ (h4 H1 e1 e2 e3)
  rwa [h3] at kk
theorem z_r_last (hpu : pu = false) (hg : z_Good p l e R s m args below meth c Q OB D DA cl TY PHI sz raw pu T0 H0 env0 nL good) (hx : p.tables.exec = Jvm.exec) (hb : c.code = cc) (hD : z_Dy s m args Ts own D cl DA tys) (hd : decode cc pc = .ok (.lastore, 1)) (h : z_ast TY RO 2 st = some st') (k : good (pc + 1) st') : good pc st := by
  refine (hg _ _).mpr fun T H locs env ls stk hs => ?_
  obtain ⟨a, n, f, x, k2, v, rfl, -, h0, h1, h2, h3, h4⟩ := z_ast_ok hpu (by omega) h hs
  obtain ⟨y, rfl⟩ := h0 rfl
  refine W.last hx hb h1 (z_isarr hD (k := 2) (by omega) n f) (fun q => by cases q) (by rw [arrV_size]; exact h2) rfl rfl hd fun H1 e1 e2 e3 => ?_
  have kk := (hg _ _).mp k T H1 _ env ls _ (h4 H1 e1 e2 e3)
  rwa [h3] at kk
theorem z_r_alen (hg : z_Good p l e R s m args below meth c Q OB D DA cl TY PHI sz raw pu T0 H0 env0 nL good) (hx : p.tables.exec = Jvm.exec) (hb : c.code = cc) (hD : z_Dy s m args Ts own D cl DA tys) (hd : decode cc pc = .ok (.arraylength, 1)) (h : z_alen TY st = some st') (k : good (pc + 1) st') : good pc st := by
  refine (hg _ _).mpr fun T H locs env ls stk hs => ?_
  unfold z_alen at h
  split at h
  · rename_i d S hS
    split at h
    · rename_i t ht
      split at h
      · rename_i q hq
        obtain ⟨hc, rfl⟩ := z_cond h
        obtain ⟨ek, ⟨lo, hi⟩, sg⟩ := q
        have hek : ek ≤ 2 := Nat.le_of_ble_eq_true hc
        obtain ⟨vd, k2, rfl, e2, hk2⟩ := z_stk_cons hS hs.2.2.2.1
        obtain ⟨a, n, f, g1, g2, g3, g4, g5, g6, g7⟩ := z_arr hs ht hq
        have q2 : vd = .ref a := Option.some.inj (e2.symm.trans g1)
        subst q2
        have hn : (Int32.ofNat n).toInt = (n : Int) := Int32.toInt_ofNat_of_lt (by omega)
        refine W.alen (n := Int32.ofNat n) hx hb g3 (z_isarr hD (k := ek) (by omega) n f) (by rw [arrV_size]) rfl rfl hd ?_
        exact (hg _ _).mp k T H locs _ ls _ (z_sat_psh hs hk2 (z_vi ⟨by rw [hn]; show (lo : Int) ≤ _; omega, by rw [hn]; show _ ≤ (hi : Int); omega⟩) (fun q hq => absurd hq List.not_mem_nil))
      · cases h
    · cases h
  · cases h
end ZARRAYS
end
section
/-! New cells; a new object becomes one of a type; types made wider. -/
def z_at (t : ArrayType) : Option Nat := match t with
  | .int => some 0
  | .byte => some 1
  | .long => some 2
  | _ => none
def z_dfl (ek : Nat) : zV := match ek with
  | 0 => .inl (0, 0)
  | 1 => .inl (0, 0)
  | _ => .inr (.inr 0)
def z_nwa (TY : List zTy) (mc ms : Nat) (tau : Nat) (ek : Nat) (st : zS) : Option zS := match z_S st with
  | x :: S => (match z_get (z_V st) x with
    | some (.inl r) => (match TY[tau]? with
      | some (.inr q) => cond (z_ile 0 r.1 && z_ile r.2 r.1 && Nat.ble r.1.toNat 1000000 && Nat.beq q.1 ek && Nat.ble q.2.1.1 r.1.toNat && Nat.ble r.1.toNat q.2.1.2 && q.2.2.all (fun g => z_le (z_dfl ek) g.2) && Nat.ble ((z_C st).1 + 1) mc && Nat.ble ((z_C st).2 + r.1.toNat) ms)
          (some (z_L st, z_n st :: S, z_n st + 1, (z_n st, .inr (.inl tau)) :: z_V st, z_F st, z_E st, z_R st, z_X st, ((z_C st).1 + 1, (z_C st).2 + r.1.toNat), z_ph st)) none
      | _ => none)
    | _ => none)
  | _ => none
def z_zf (ty : FieldType) : Bool := match ty with
  | .int => true
  | .boolean => true
  | _ => false
def z_new (CL : List (Nat × Nat)) (cl : List vw_C) (FT : Nat → Nat → FieldType) (mc ms : Nat) (st : zS) (i : Nat) : Option zS := match CL.find? (fun q => Nat.beq q.1 i) with
  | some q => (match cl[q.2]? with
    | some r => cond (Nat.ble ((z_C st).1 + 1) mc && Nat.ble ((z_C st).2 + r.2.2) ms)
        (some (z_L st, z_n st :: z_S st, z_n st + 2, (z_n st + 1, .inl (0, 0)) :: z_V st, ((List.range r.2.2).filter (fun k => z_zf (FT q.2 k))).map (fun k => (z_n st, q.2, k, z_n st + 1)) ++ z_F st, z_E st, z_R st, (z_n st, q.2) :: z_X st, ((z_C st).1 + 1, (z_C st).2 + r.2.2), z_ph st)) none
    | none => none)
  | none => none
def z_pub (TY : List zTy) (st : zS) (d tau : Nat) : Option zS := match (z_X st).find? (fun q => Nat.beq q.1 d), TY[tau]? with
  | some q, some (.inl o) => cond (Nat.beq o.1 q.2 && (!(Nat.beq o.1 12) && !(Nat.beq o.1 4)) && (List.range o.2.length).all (fun k => match o.2[k]?, z_ffind st d q.2 k with
      | some c, some w => (match z_get (z_V st) w with
        | some cw => z_le cw c
        | none => false)
      | _, _ => false)) (some (z_L st, z_S st, z_n st, (d, .inr (.inl tau)) :: z_V st, z_F st, z_E st, z_R st, (z_X st).filter (fun p => !(Nat.beq p.1 d)), z_C st, z_ph st)) none
  | _, _ => none
section ZMAKES
variable {p : Program} {l : Launch} {e : Env} {R : Room} {s : State} {m : MethodId} {args : Array Value} {below : List Frame} {meth : Method} {c : Code} {Q : State → Prop} {cc : ByteArray} {pc : Nat}
variable {OB : Nat → Nat} {D : va_G} {DA : Nat → ClassId} {cl : List vw_C} {TY : List zTy} {PHI : List (List Nat)} {sz : Nat} {raw : Option Nat} {pu : Bool} {T0 : zTp} {H0 : Heap} {env0 : List Value} {nL : Nat} {st st' : zS} {good : Nat → zS → Prop}
variable {Ts : List Cond} {own : String} {FT : Nat → Nat → FieldType} {FL : List (Nat × Nat × Nat)} {CL : List (Nat × Nat)} {tys : List (ClassId × FieldType)}
variable {T : zTp} {H : Heap} {locs : List Loc} {env : List Value} {ls : Array Slot} {stk : List Value} {cells slots : Nat} {rest : List Value}
theorem z_v_mono {T T' : zTp} (h : ∀ b t, T b = some t → T' b = some t) {c : zV} {v : Value} (hv : z_v OB T c v) : z_v OB T' c v := by
  match c, hv with
  | .inl r, hv => exact hv
  | .inr (.inl t), ⟨a, e, ha⟩ => exact ⟨a, e, h a t ha⟩
  | .inr (.inr 0), hv => exact hv
  | .inr (.inr (k + 1)), hv => exact hv
theorem z_cell_mono {T T' : zTp} (h : ∀ b t, T b = some t → T' b = some t) {a : Nat} {ty : zTy} (hc : z_cell OB D DA cl T H a ty) : z_cell OB D DA cl T' H a ty := by
  cases ty with
  | inl o =>
    obtain ⟨r, h1, h2, V, h3, h4⟩ := hc
    exact ⟨r, h1, h2, V, h3, fun k c hk => z_v_mono h (h4 k c hk)⟩
  | inr q =>
    obtain ⟨n, f, h1, h2, h3, h4, h5⟩ := hc
    exact ⟨n, f, h1, h2, h3, h4, fun g hg j h6 h7 h8 => z_v_mono h (h5 g hg j h6 h7 h8)⟩
theorem z_T1_sub {T : zTp} {a tau : Nat} (ha : T a = none) : ∀ b t, T b = some t → z_T1 T a tau b = some t := by
  intro b t hb
  unfold z_T1
  rw [if_neg (fun h => by subst h; rw [ha] at hb; cases hb)]
  exact hb
theorem z_cell_lt {a : Nat} {ty : zTy} (h : z_cell OB D DA cl T H a ty) : a < H.size := by
  cases ty with
  | inl o =>
    obtain ⟨r, h1, h2, V, ⟨cell, h3, -⟩, h4⟩ := h
    exact (Array.getElem?_eq_some_iff.mp h3).1
  | inr q =>
    obtain ⟨n, f, h1, -⟩ := h
    exact (Array.getElem?_eq_some_iff.mp h1).1
theorem z_mem_lt {ph : Nat} (h : z_mem OB D DA cl TY PHI sz raw pu T0 H0 T H locs ph) {a t : Nat} (ha : T a = some t) : a < H.size := by
  obtain ⟨ty, h1, h2⟩ := h.1.1 a t ha
  exact z_cell_lt h2
/-- a cell gets a type -/
theorem z_mem_grow (hpu : pu = false) {ph tau : Nat} {H1 : Heap} {a : Nat} {ty : zTy} (h : z_mem OB D DA cl TY PHI sz raw pu T0 H0 T H locs ph) (ha : T a = none) (hty : TY[tau]? = some ty) (hc : z_cell OB D DA cl (z_T1 T a tau) H1 a ty) (hz : H.size ≤ H1.size) (oq : ∀ b : Nat, b < H.size → b ≠ a → H1[b]? = H[b]?) (hsz : sz ≤ a) (hr : H0.size ≤ a ∨ raw = some a) (h0 : ∀ b : Nat, b < H0.size → H1[b]? = H[b]?) (hn : ∀ ci fl, TY[tau]? = some (.inl (ci, fl)) → ci ≠ 12 ∧ ci ≠ 4) :
    z_mem OB D DA cl TY PHI sz raw pu T0 H0 (z_T1 T a tau) H1 locs ph := by
  obtain ⟨h1, h2, h3, h4, h5⟩ := h
  refine ⟨⟨fun b u hb => ?_, zJ_grow h1.2 ha (fun b u hb => by obtain ⟨ty2, y1, y2⟩ := h1.1 b u hb; exact z_cell_lt y2) oq hn⟩, ⟨fun b u hb => ?_, (fun h => by rw [hpu] at h; cases h), z_fin_tr h2.2.2 fun b u ci fl hb hty2 => ⟨u, fl, z_T1_sub ha _ _ hb, hty2, fun r k2 w x1 x2 x3 x4 => z_sl_kept0 x4 (oq b (by obtain ⟨ty2, y1, y2⟩ := h1.1 b u hb; exact z_cell_lt y2) (fun e => by subst e; rw [hb] at ha; cases ha))⟩⟩, fun b u hb => z_T1_sub ha _ _ (h3 b u hb), fun q hq1 hq2 hq3 => ?_, Nat.le_trans h5.1 hz, fun q hq1 hq2 => ?_, h5.2.2⟩
  · by_cases e : b = a
    · subst e
      rw [z_T1_at] at hb
      cases hb
      exact ⟨ty, hty, hc⟩
    · rw [z_T1_ne e] at hb
      obtain ⟨ty2, g1, g2⟩ := h1.1 b u hb
      exact ⟨ty2, g1, z_cell_mono (z_T1_sub ha) (z_cell_kept g2 (oq b (z_cell_lt g2) e))⟩
  · by_cases e : b = a
    · rw [e]; exact hsz
    · rw [z_T1_ne e] at hb; exact h2.1 b u hb
  · obtain ⟨g1, g2⟩ := h4 q hq1 hq2 hq3
    have hqa : q ≠ a := by
      intro e
      subst e
      rcases hr with h | h
      · omega
      · exact hq3 h
    exact ⟨by rw [z_T1_ne hqa]; exact g1, by rw [h0 q hq1]; exact g2⟩
  · rw [h0 q hq1]; exact h5.2.1 q hq1 hq2
theorem z_fv_mono {T T' : zTp} (h : ∀ b t, T b = some t → T' b = some t) {V : List (Nat × zV)} (hv : z_fv OB T env V) : z_fv OB T' env V := fun q hq => by
  obtain ⟨v, e1, e2⟩ := hv q hq
  exact ⟨v, e1, z_v_mono h e2⟩
theorem z_fx_grow {n0 tau : Nat} {H1 : Heap} {a : Nat} (oq : ∀ b : Nat, b < H.size → H1[b]? = H[b]?) : ∀ {X : List (Nat × Nat)}, (∀ p ∈ X, env[p.1]? ≠ some (.ref a)) → z_fx D cl T sz n0 raw H env X → z_fx D cl (z_T1 T a tau) sz n0 raw H1 env X
  | [], _, h => h
  | x :: X, ha, ⟨⟨b, h1, h2, h3, ⟨r, V, h4, h4b⟩, h5⟩, hr⟩ => by
    have hb : b ≠ a := fun e => by subst e; exact ha x List.mem_cons_self h1
    have hlt : b < H.size := by
      obtain ⟨cell, x1, -⟩ := h4b
      exact (Array.getElem?_eq_some_iff.mp x1).1
    exact ⟨⟨b, h1, by rw [z_T1_ne hb]; exact h2, h3, ⟨r, V, h4, h4b.kept (oq b hlt)⟩, h5⟩, z_fx_grow oq (fun p hp => ha p (List.mem_cons_of_mem _ hp)) hr⟩
theorem z_fx_push {n0 : Nat} {H1 : Heap} (oq : ∀ b : Nat, b < H.size → H1[b]? = H[b]?) : ∀ {X : List (Nat × Nat)}, z_fx D cl T sz n0 raw H env X → z_fx D cl T sz n0 raw H1 env X
  | [], h => h
  | x :: X, ⟨⟨b, h1, h2, h3, ⟨r, V, h4, h4b⟩, h5⟩, hr⟩ => by
    have hlt : b < H.size := by
      obtain ⟨cell, x1, -⟩ := h4b
      exact (Array.getElem?_eq_some_iff.mp x1).1
    exact ⟨⟨b, h1, h2, h3, ⟨r, V, h4, h4b.kept (oq b hlt)⟩, h5⟩, z_fx_push oq hr⟩
theorem z_ff_push {H1 : Heap} (oq : ∀ b : Nat, b < H.size → H1[b]? = H[b]?) {F : List (Nat × Nat × Nat × Nat)} (h : z_ff D cl H env F) : z_ff D cl H1 env F := fun q hq => by
  obtain ⟨a, w, r, e1, e2, e3, e4, cell, e5, e6⟩ := h q hq
  exact ⟨a, w, r, e1, e2, e3, e4, cell, by rw [oq a (Array.getElem?_eq_some_iff.mp e5).1]; exact e5, e6⟩
theorem z_fe_push {H1 : Heap} (oq : ∀ b : Nat, b < H.size → H1[b]? = H[b]?) {E : List (Nat × Nat × Nat)} (h : z_fe H env E) : z_fe H1 env E := fun q hq => by
  obtain ⟨a, x, w, e1, e2, e3, e4, cell, e5, e6⟩ := h q hq
  exact ⟨a, x, w, e1, e2, e3, e4, cell, by rw [oq a (Array.getElem?_eq_some_iff.mp e5).1]; exact e5, e6⟩
theorem z_r_nwa (hpu : pu = false) (hg : z_Good p l e R s m args below meth c Q OB D DA cl TY PHI sz raw pu T0 H0 env0 nL good) (hx : p.tables.exec = Jvm.exec) (hb : c.code = cc) (hD : z_Dy s m args Ts own D cl DA tys) (hAr : ∀ k, k < 3 → Cond.arrayClass (z_ek k) ∈ Ts) (hsz : sz ≤ H0.size) {aty : ArrayType} {ek tau : Nat} (hat : z_at aty = some ek) (hd : decode cc pc = .ok (.newarray aty, 2)) (h : z_nwa TY R.cells R.slots tau ek st = some st') (k : good (pc + 2) st') : good pc st := by
  refine (hg _ _).mpr fun T H locs env ls stk hs => ?_
  have hek : ek < 3 ∧ newarray.typeOf aty = z_ek ek := by
    cases aty <;> simp only [z_at, Option.some.injEq, reduceCtorEq] at hat <;> subst hat <;> exact ⟨by omega, rfl⟩
  unfold z_nwa at h
  split at h
  · rename_i x S hS
    split at h
    · rename_i r hr
      split at h
      · rename_i q hq
        obtain ⟨hc, rfl⟩ := z_cond h
        simp only [Bool.and_eq_true] at hc
        obtain ⟨⟨⟨⟨⟨⟨⟨⟨c1, c2⟩, c3⟩, c4⟩, c5⟩, c6⟩, c7⟩, c8⟩, c9⟩ := hc
        obtain ⟨ek2, ⟨lo, hi⟩, sg⟩ := q
        have he : ek2 = ek := z_beq c4
        subst he
        obtain ⟨vx, k2, rfl, e2, hk2⟩ := z_stk_cons hS hs.2.2.2.1
        obtain ⟨w, e3, x1, rfl, hx1⟩ := z_get_ok hs.2.2.2.2.1 hr
        have q1 : vx = .int x1 := Option.some.inj (e2.symm.trans e3)
        subst q1
        have l1 := z_ile_ok c1
        have l2 := z_ile_ok c2
        obtain ⟨u1, u2⟩ := hx1
        have hN : x1.toNatClampNeg = r.1.toNat := by rw [z_clamp]; omega
        have l3 : r.1.toNat ≤ 1000000 := Nat.le_of_ble_eq_true c3
        have l5 : lo ≤ r.1.toNat := Nat.le_of_ble_eq_true c5
        have l6 : r.1.toNat ≤ hi := Nat.le_of_ble_eq_true c6
        have hcb : componentBytes (z_ek ek2) ≤ 8 := by
          obtain ⟨h1, -⟩ := hek
          match ek2, h1 with
          | 0, _ => decide
          | 1, _ => decide
          | 2, _ => decide
        refine va_newaK hx hb (by rw [hek.2]; exact hD.1 _ (hAr _ hek.1)) rfl hd rfl (fun hneg => ?_) hN ?_ (Nat.le_of_ble_eq_true c8) (Nat.le_of_ble_eq_true c9) rfl fun H1 cA y1 y2 y3 y4 y5 => ?_
        · have := Int32.lt_iff_toInt_lt.mp hneg
          have z0 : (0 : Int32).toInt = 0 := rfl
          omega
        · rw [hek.2]
          have := Nat.mul_le_mul l3 hcb
          omega
        have hcA : cA = DA ek2 := by
          have h1 := (hD.2.2.1.2 ek2 _ (hD.2.2.2 ek2 hek.1)).2
          rw [hek.2] at y5
          have h2 : va_RA s (DA ek2) (z_ek ek2) := h1
          have h3 : s.vm.findClass ("[" ++ (z_ek ek2).toString) = some (DA ek2) := by
            obtain ⟨h0, -⟩ := hek
            match ek2, h0, h2 with
            | 0, _, h2 => exact h2
            | 1, _, h2 => exact h2
            | 2, _, h2 => exact h2
          rw [y5] at h3
          exact Option.some.inj h3
        subst hcA
        have hmem := hs.2.2.2.2.2.2.2.2.2
        have hTn : T H.size = none := by
          cases hT : T H.size with
          | none => rfl
          | some t => exact absurd (z_mem_lt hmem hT) (Nat.lt_irrefl _)
        have hsz1 : H0.size ≤ H.size := hmem.2.2.2.2.1
        have hcell : z_cell OB D DA cl (z_T1 T H.size tau) H1 H.size (.inr (ek2, (lo, hi), sg)) := by
          refine ⟨_, _, y1, l5, l6, by omega, fun g hg2 j _ _ _ => z_le_ok (List.all_eq_true.mp c7 g hg2) ?_⟩
          rw [hek.2]
          obtain ⟨h0, -⟩ := hek
          match ek2, h0 with
          | 0, _ => exact ⟨0, rfl, Int.le_refl _, Int.le_refl _⟩
          | 1, _ => exact ⟨0, rfl, Int.le_refl _, Int.le_refl _⟩
          | 2, _ => exact ⟨0, rfl⟩
        have hm := z_mem_grow hpu (tau := tau) (H1 := H1) hmem hTn hq hcell (by omega) (fun b hb1 _ => y3 b hb1) (by omega) (Or.inl hsz1) (fun b hb1 => y3 b (by omega)) (fun ci fl hh => by rw [hq] at hh; cases hh)
        have hp := z_sat_psh hs hk2 (c := .inl (0, 0)) (v := .int 0) ⟨0, rfl, Int.le_refl _, Int.le_refl _⟩ (rs := []) (fun q hq => absurd hq List.not_mem_nil)
        have hn : (env ++ [Value.ref H.size])[z_n st]? = some (.ref H.size) := by rw [← hs.1]; simp
        refine (hg _ _).mp k (z_T1 T H.size tau) H1 locs (env ++ [.ref H.size]) ls _ ⟨by show (env ++ [Value.ref H.size]).length = z_n st + 1; rw [List.length_append, hs.1]; rfl, ?_, z_ls_app hs.2.2.1, ⟨_, _, rfl, hn, z_stk_app hk2⟩, fun f hf => ?_, z_ff_push y3 (z_ff_app hs.2.2.2.2.2.1), z_fe_push y3 (z_fe_app hs.2.2.2.2.2.2.1), z_fr_app hs.2.2.2.2.2.2.2.1, ?_, hm⟩
        · obtain ⟨w, hw⟩ := hs.2.1
          exact ⟨w ++ [.ref H.size], by rw [hw, List.append_assoc]⟩
        · rcases List.mem_cons.mp hf with rfl | hf
          · exact ⟨_, hn, H.size, rfl, z_T1_at⟩
          · exact z_fv_mono (z_T1_sub hTn) (z_fv_app hs.2.2.2.2.1) f hf
        · refine z_fx_grow y3 (fun p hp hpe => ?_) (z_fx_app hs.2.2.2.2.2.2.2.2.1)
          obtain ⟨b, b1, b2, b3, r2, V, b4, ⟨cell, b5, -⟩⟩ := z_fx_in (z_fx_app (w := [Value.ref H.size]) hs.2.2.2.2.2.2.2.2.1) p hp
          rw [b1] at hpe
          cases hpe
          exact absurd (Array.getElem?_eq_some_iff.mp b5).1 (Nat.lt_irrefl _)
      · cases h
    · cases h
  · cases h
end ZMAKES
end
section
/-! New objects; types given and made wider; longs. -/
def z_mp (PHI : List (List Nat)) (ph : Nat) (c : zV) : zV := match c with
  | .inr (.inl t) => .inr (.inl (z_phi PHI ph t))
  | c => c
/-- a type is within another one, once its references are taken on -/
def z_tle (PHI : List (List Nat)) (ph : Nat) (a b : zTy) : Bool := match a, b with
  | .inl o, .inl q => Nat.beq o.1 q.1 && Nat.beq o.2.length q.2.length && (List.range q.2.length).all (fun k => match o.2[k]?, q.2[k]? with
    | some x, some y => z_le (z_mp PHI ph x) y
    | _, _ => false)
  | .inr o, .inr q => Nat.beq o.1 q.1 && Nat.ble q.2.1.1 o.2.1.1 && Nat.ble o.2.1.2 q.2.1.2 && q.2.2.all (fun g => o.2.2.any (fun f => Nat.ble f.1.1 g.1.1 && Nat.ble g.1.2 f.1.2 && z_le (z_mp PHI ph f.2) g.2))
  | _, _ => false
def z_phok (TY : List zTy) (PHI : List (List Nat)) (ph : Nat) : Bool := (List.range TY.length).all (fun t => match TY[t]?, TY[z_phi PHI ph t]? with
  | some a, some b => z_tle PHI ph a b
  | _, _ => false)
def z_rty (PHI : List (List Nat)) (st : zS) (ph : Nat) : Option zS := cond (Nat.beq (z_ph st) 0) (some (z_L st, z_S st, z_n st, (z_V st).map (fun q => (q.1, z_mp PHI ph q.2)), z_F st, z_E st, z_R st, z_X st, z_C st, ph)) none
def z_lc0 (st : zS) : Option zS := some (z_psh st (z_S st) (.inr (.inr 0)) [])
def z_lsh (st : zS) : Option zS := match z_S st with
  | y :: x :: S => (match z_get (z_V st) x, z_get (z_V st) y with
    | some (.inr (.inr 0)), some (.inl _) => some (z_psh st S (.inr (.inr 0)) [])
    | _, _ => none)
  | _ => none
def z_l2 (c : zV) (st : zS) : Option zS := match z_S st with
  | y :: x :: S => (match z_get (z_V st) x, z_get (z_V st) y with
    | some (.inr (.inr 0)), some (.inr (.inr 0)) => some (z_psh st S c [])
    | _, _ => none)
  | _ => none
section ZMAKES2
variable {p : Program} {l : Launch} {e : Env} {R : Room} {s : State} {m : MethodId} {args : Array Value} {below : List Frame} {meth : Method} {c : Code} {Q : State → Prop} {cc : ByteArray} {pc : Nat}
variable {OB : Nat → Nat} {D : va_G} {DA : Nat → ClassId} {cl : List vw_C} {TY : List zTy} {PHI : List (List Nat)} {sz : Nat} {raw : Option Nat} {pu : Bool} {T0 : zTp} {H0 : Heap} {env0 : List Value} {nL : Nat} {st st' : zS} {good : Nat → zS → Prop}
variable {Ts : List Cond} {own : String} {FT : Nat → Nat → FieldType} {FL : List (Nat × Nat × Nat)} {CL : List (Nat × Nat)} {tys : List (ClassId × FieldType)}
variable {T : zTp} {H : Heap} {locs : List Loc} {env : List Value} {ls : Array Slot} {stk : List Value} {cells slots : Nat} {rest : List Value}
theorem z_r_new (hpu : pu = false) (hg : z_Good p l e R s m args below meth c Q OB D DA cl TY PHI sz raw pu T0 H0 env0 nL good) (hx : p.tables.exec = Jvm.exec) (hb : c.code = cc) (hSt : z_St Ts cl FT own FL) (hD : z_Dy s m args Ts own D cl DA tys) (hCL : ∀ q ∈ CL, ∃ r, cl[q.2]? = some r ∧ Cond.classLink own q.1 r.1 ∈ Ts ∧ Cond.instantiable r.1 r.2.2 ∈ Ts ∧ Cond.initialized r.1 ∈ Ts) (hsz : sz ≤ H0.size) {i : Nat} (hd : decode cc pc = .ok (.new i, 3)) (h : z_new CL cl FT R.cells R.slots st i = some st') (k : good (pc + 3) st') : good pc st := by
  refine (hg _ _).mpr fun T H locs env ls stk hs => ?_
  unfold z_new at h
  split at h
  · rename_i q hq
    have hm := List.mem_of_find?_eq_some hq
    have hi0 := List.find?_some hq
    have hi : q.1 = i := z_beq hi0
    split at h
    · rename_i r hr
      obtain ⟨hc, rfl⟩ := z_cond h
      rw [Bool.and_eq_true] at hc
      obtain ⟨r2, w1, w2, w3, w4⟩ := hCL q hm
      rw [hr] at w1
      cases w1
      obtain ⟨hts, hown, hK, -⟩ := id hD
      have hKn := hK.1 _ _ hr
      have hmem := hs.2.2.2.2.2.2.2.2.2
      have hTn : T H.size = none := by
        cases hT : T H.size with
        | none => rfl
        | some t => exact absurd (z_mem_lt hmem hT) (Nat.lt_irrefl _)
      have hsz1 : H0.size ≤ H.size := hmem.2.2.2.2.1
      refine W.newcK hx hb hown (hts _ w2) (hts _ w3) (hts _ w4) rfl (by rw [← hi] at hd; exact hd) (Nat.le_of_ble_eq_true hc.1) (Nat.le_of_ble_eq_true hc.2) hKn.2.1 rfl fun H1 kC y1 y2 y3 y4 => ?_
      have hob : t_OB H.size (D.1 q.2) r.2.2 (D.2 q.2) H1 (fun k => defaultValue (FT q.2 k)) := u_born (FT q.2) hts (hSt.1 _ _ hr).1 hKn y1 y2 (hSt.1 _ _ hr).2.1
      have n0 : (env ++ [Value.ref H.size, Value.int 0])[z_n st]? = some (.ref H.size) := by rw [← hs.1]; simp
      have n1 : (env ++ [Value.ref H.size, Value.int 0])[z_n st + 1]? = some (.int 0) := by rw [← hs.1]; simp
      refine (hg _ _).mp k T H1 locs (env ++ [.ref H.size, .int 0]) ls _ ⟨by show (env ++ [Value.ref H.size, Value.int 0]).length = z_n st + 2; rw [List.length_append, hs.1]; rfl, ?_, z_ls_app hs.2.2.1, ⟨_, _, rfl, n0, z_stk_app hs.2.2.2.1⟩, fun f hf => ?_, fun f hf => ?_, z_fe_push y4 (z_fe_app hs.2.2.2.2.2.2.1), z_fr_app hs.2.2.2.2.2.2.2.1, ⟨⟨H.size, n0, hTn, ⟨by omega, Or.inl hsz1⟩, ⟨r, _, hr, hob⟩, fun p hp hpe => ?_⟩, z_fx_push y4 (z_fx_app hs.2.2.2.2.2.2.2.2.1)⟩, ?_⟩
      · obtain ⟨w, hw⟩ := hs.2.1
        exact ⟨w ++ [.ref H.size, .int 0], by rw [hw, List.append_assoc]⟩
      · rcases List.mem_cons.mp hf with rfl | hf
        · exact ⟨_, n1, 0, rfl, Int.le_refl _, Int.le_refl _⟩
        · exact z_fv_app hs.2.2.2.2.1 f hf
      · rcases List.mem_append.mp hf with hf | hf
        · obtain ⟨k1, hk1, rfl⟩ := List.mem_map.mp hf
          obtain ⟨hk2, hk3⟩ := List.mem_filter.mp hk1
          have hlt := List.mem_range.mp hk2
          refine ⟨H.size, .int 0, r, n0, n1, hr, hlt, ?_⟩
          obtain ⟨cell, x1, x2, x3, x4⟩ := hob
          refine ⟨cell, x1, x3, ?_⟩
          show cell.slots[D.2 q.2 k1]? = some (.int 0)
          rw [x4 _ hlt]
          show some (defaultValue (FT q.2 k1)) = some (.int 0)
          cases hft : FT q.2 k1 <;> rw [hft] at hk3 <;> simp only [z_zf, Bool.false_eq_true] at hk3 <;> rfl
        · exact z_ff_push y4 (z_ff_app hs.2.2.2.2.2.1) f hf
      · obtain ⟨b, b1, b2, b3, r2, V, b4, ⟨cell, b5, -⟩⟩ := z_fx_in (z_fx_app (w := [Value.ref H.size, Value.int 0]) hs.2.2.2.2.2.2.2.2.1) p hp
        rw [b1] at hpe
        cases hpe
        exact absurd (Array.getElem?_eq_some_iff.mp b5).1 (Nat.lt_irrefl _)
      · obtain ⟨h1, h2, h3, h4, h5⟩ := hmem
        refine ⟨⟨fun b u hb => ?_, zJ_ext h1.2 (fun b u hb => by obtain ⟨ty2, u1, u2⟩ := h1.1 b u hb; exact z_cell_lt u2) (fun b hb => y4 b hb)⟩, ⟨h2.1, (fun h => by rw [hpu] at h; cases h), z_fin_tr h2.2.2 fun b u ci fl hb hty2 => ⟨u, fl, hb, hty2, fun r k2 w x1 x2 x3 x4 => z_sl_kept0 x4 (y4 b (by obtain ⟨ty2, u1, u2⟩ := h1.1 b u hb; exact z_cell_lt u2))⟩⟩, h3, fun q hq1 hq2 hq3 => ?_, Nat.le_trans h5.1 (by omega), fun q hq1 hq2 => ?_, h5.2.2⟩
        · obtain ⟨ty2, g1, g2⟩ := h1.1 b u hb
          exact ⟨ty2, g1, z_cell_kept g2 (y4 b (z_cell_lt g2))⟩
        · obtain ⟨g1, g2⟩ := h4 q hq1 hq2 hq3
          exact ⟨g1, by rw [y4 q (by omega)]; exact g2⟩
        · rw [y4 q (by omega)]; exact h5.2.1 q hq1 hq2
    · cases h
  · cases h
theorem z_fx_rem {n0 : Nat} {d : Nat} {a tau : Nat} (hd : env[d]? = some (.ref a)) : ∀ {X : List (Nat × Nat)}, z_fx D cl T sz n0 raw H env X → (∀ p ∈ X, p.1 ≠ d → env[p.1]? ≠ some (.ref a)) → z_fx D cl (z_T1 T a tau) sz n0 raw H env (X.filter (fun p => !(Nat.beq p.1 d)))
  | [], h, _ => h
  | x :: X, ⟨⟨b, h1, h2, h3, h4, h5⟩, hr⟩, hn => by
    have ih := z_fx_rem (tau := tau) hd hr (fun p hp => hn p (List.mem_cons_of_mem _ hp))
    unfold List.filter
    cases hx : Nat.beq x.1 d with
    | true => exact ih
    | false =>
      have hne : x.1 ≠ d := fun h => by rw [h] at hx; simp at hx
      have hba : b ≠ a := fun h => by subst h; exact hn x List.mem_cons_self hne h1
      exact ⟨⟨b, h1, by rw [z_T1_ne hba]; exact h2, h3, h4, fun p hp => h5 p (List.mem_filter.mp hp).1⟩, ih⟩
theorem z_pub_ok (hpu : pu = false) (hg : z_Good p l e R s m args below meth c Q OB D DA cl TY PHI sz raw pu T0 H0 env0 nL good) {d tau : Nat} (hTY : ∀ ci fl, TY[tau]? = some (.inl (ci, fl)) → ∀ r, cl[ci]? = some r → fl.length = r.2.2) (h : z_pub TY st d tau = some st') (k : good pc st') : good pc st := by
  refine (hg _ _).mpr fun T H locs env ls stk hs => ?_
  unfold z_pub at h
  split at h
  · rename_i q o hq ho
    obtain ⟨hc, rfl⟩ := z_cond h
    rw [Bool.and_eq_true, Bool.and_eq_true] at hc
    have hm := List.mem_of_find?_eq_some hq
    have hi0 := List.find?_some hq
    have hi : q.1 = d := z_beq hi0
    obtain ⟨ci, fl⟩ := o
    have hci : ci = q.2 := z_beq hc.1.1
    subst hci
    have hnew : q.2 ≠ 12 ∧ q.2 ≠ 4 := by
      have h5 : (!(Nat.beq q.2 12) && !(Nat.beq q.2 4)) = true := hc.1.2
      rw [Bool.and_eq_true] at h5
      refine ⟨fun e => ?_, fun e => ?_⟩
      · have h6 := h5.1
        rw [e] at h6
        exact absurd h6 (by decide)
      · have h6 := h5.2
        rw [e] at h6
        exact absurd h6 (by decide)
    obtain ⟨a, g1, g2, g3, r, V, g4, g5⟩ := z_fx_in hs.2.2.2.2.2.2.2.2.1 q hm
    rw [hi] at g1
    have hfl := hTY _ _ ho r g4
    have hmem := hs.2.2.2.2.2.2.2.2.2
    have hcell : z_cell OB D DA cl (z_T1 T a tau) H a (.inl (q.2, fl)) := by
      refine ⟨r, g4, hfl, V, g5, fun j c1 hj => ?_⟩
      have hlt : j < fl.length := (List.getElem?_eq_some_iff.mp hj).1
      have h1 := List.all_eq_true.mp hc.2 j (List.mem_range.mpr hlt)
      split at h1
      · rename_i c2 w hc2 hw
        have hj2 : fl[j]? = some c2 := hc2
        rw [hj] at hj2
        cases hj2
        obtain ⟨a2, v2, y1, y2, cell, y3, y4, y5⟩ := z_ffind_ok hw hs
        rw [g1] at y1
        cases y1
        split at h1
        · rename_i cw hcw
          obtain ⟨v3, y6, y7⟩ := z_get_ok hs.2.2.2.2.1 hcw
          rw [y2] at y6
          cases y6
          obtain ⟨cell2, x1, x2, x3, x4⟩ := g5
          rw [y3] at x1
          cases x1
          have := x4 j (by omega)
          rw [y5] at this
          cases this
          exact z_v_mono (z_T1_sub g2) (z_le_ok h1 y7)
        · cases h1
      · cases h1
    have hbase : ∀ b t, z_T1 T a tau b = some t → ∃ ty, TY[t]? = some ty ∧ z_cell OB D DA cl (z_T1 T a tau) H b ty := by
      intro b t hb2
      by_cases eb : b = a
      · subst eb
        rw [z_T1_at] at hb2
        cases hb2
        exact ⟨_, ho, hcell⟩
      · rw [z_T1_ne eb] at hb2
        obtain ⟨ty2, y1, y2⟩ := hmem.1.1 b t hb2
        exact ⟨ty2, y1, z_cell_mono (z_T1_sub g2) y2⟩
    have hms := z_mem_grow hpu (tau := tau) (H1 := H) hmem g2 ho hcell (Nat.le_refl _) (fun b _ _ => rfl) g3.1 g3.2 (fun b _ => rfl) (fun ci fl hh => by rw [ho] at hh; cases hh; exact hnew)
    refine (hg _ _).mp k (z_T1 T a tau) H locs env ls stk ⟨hs.1, hs.2.1, hs.2.2.1, hs.2.2.2.1, fun f hf => ?_, hs.2.2.2.2.2.1, hs.2.2.2.2.2.2.1, hs.2.2.2.2.2.2.2.1, z_fx_rem g1 hs.2.2.2.2.2.2.2.2.1 (fun p hp hne => ?_), hms⟩
    · rcases List.mem_cons.mp hf with rfl | hf
      · exact ⟨_, g1, a, rfl, z_T1_at⟩
      · exact z_fv_mono (z_T1_sub g2) hs.2.2.2.2.1 f hf
    · exact z_fx_apart hs.2.2.2.2.2.2.2.2.1 hm hp (by rw [hi]; exact fun h => hne h.symm) (by rw [hi]; exact g1)
  · cases h
theorem z_mp_ok {ph : Nat} {T' : zTp} (h : ∀ b, T' b = (T b).map (z_phi PHI ph)) {c : zV} {v : Value} (hv : z_v OB T c v) : z_v OB T' (z_mp PHI ph c) v := by
  match c, hv with
  | .inl r, hv => exact hv
  | .inr (.inl t), ⟨a, e, ha⟩ => exact ⟨a, e, by rw [h, ha]; rfl⟩
  | .inr (.inr 0), hv => exact hv
  | .inr (.inr (k + 1)), hv => exact hv
theorem z_tle_ok {ph : Nat} {T' : zTp} (h : ∀ b, T' b = (T b).map (z_phi PHI ph)) {a b : zTy} (hl : z_tle PHI ph a b = true) {q : Nat} (hc : z_cell OB D DA cl T H q a) : z_cell OB D DA cl T' H q b := by
  cases a with
  | inl o =>
    cases b with
    | inr b => cases hl
    | inl b =>
      unfold z_tle at hl
      simp only [Bool.and_eq_true] at hl
      obtain ⟨⟨h1, h2⟩, h3⟩ := hl
      obtain ⟨r, g1, g2, V, g3, g4⟩ := hc
      have e1 := z_beq h1
      have e2 := z_beq h2
      rw [e1] at g1 g3
      refine ⟨r, g1, by rw [← e2]; exact g2, V, g3, fun k c hk => ?_⟩
      have hlt : k < b.2.length := (List.getElem?_eq_some_iff.mp hk).1
      have h4 := List.all_eq_true.mp h3 k (List.mem_range.mpr hlt)
      split at h4
      · rename_i x y hx hy
        rw [hk] at hy
        cases hy
        exact z_le_ok h4 (z_mp_ok h (g4 k x hx))
      · cases h4
  | inr o =>
    cases b with
    | inl b => cases hl
    | inr b =>
      unfold z_tle at hl
      simp only [Bool.and_eq_true] at hl
      obtain ⟨⟨⟨h1, h2⟩, h3⟩, h4⟩ := hl
      obtain ⟨n, f, g1, g2, g3, g4, g5⟩ := hc
      have e1 := z_beq h1
      rw [e1] at g1
      refine ⟨n, f, g1, Nat.le_trans (Nat.le_of_ble_eq_true h2) g2, Nat.le_trans g3 (Nat.le_of_ble_eq_true h3), g4, fun g hg j hj1 hj2 hj3 => ?_⟩
      obtain ⟨x, hx1, hx2⟩ := List.any_eq_true.mp (List.all_eq_true.mp h4 g hg)
      simp only [Bool.and_eq_true] at hx2
      exact z_le_ok hx2.2 (z_mp_ok h (g5 x hx1 j hj1 (Nat.le_trans (Nat.le_of_ble_eq_true hx2.1.1) hj2) (Nat.le_trans hj3 (Nat.le_of_ble_eq_true hx2.1.2))))
theorem z_ht_map {ph : Nat} (hp : z_phok TY PHI ph = true) (h : z_ht OB D DA cl TY T H) : z_ht OB D DA cl TY (fun b => (T b).map (z_phi PHI ph)) H := by
  refine ⟨fun a t ht => ?_, zJ_map h.2 fun a u hT ci fl hty => ?_⟩
  · cases hT : T a with
    | none => simp [hT] at ht
    | some u =>
      have hu : t = z_phi PHI ph u := by simp [hT] at ht; exact ht.symm
      subst hu
      obtain ⟨ty, g1, g2⟩ := h.1 a u hT
      have hlt : u < TY.length := (List.getElem?_eq_some_iff.mp g1).1
      have h1 := List.all_eq_true.mp hp u (List.mem_range.mpr hlt)
      split at h1
      · rename_i x y hx hy
        rw [g1] at hx
        cases hx
        exact ⟨y, hy, z_tle_ok (fun b => rfl) h1 g2⟩
      · cases h1
  · obtain ⟨ty, g1, g2⟩ := h.1 a u hT
    have hlt : u < TY.length := (List.getElem?_eq_some_iff.mp g1).1
    have h1 := List.all_eq_true.mp hp u (List.mem_range.mpr hlt)
    split at h1
    · rename_i x y hx hy
      rw [hty] at hy
      cases hy
      cases x with
      | inl q =>
        simp only [z_tle, Bool.and_eq_true] at h1
        obtain ⟨qc, qf⟩ := q
        have hq : qc = ci := z_beq h1.1.1
        subst hq
        exact ⟨qf, hx⟩
      | inr q => simp [z_tle] at h1
    · cases h1
theorem z_mem_map (hpu : pu = false) {ph : Nat} (hp : z_phok TY PHI ph = true) (h : z_mem OB D DA cl TY PHI sz raw pu T0 H0 T H locs 0) : z_mem OB D DA cl TY PHI sz raw pu T0 H0 (fun b => (T b).map (z_phi PHI ph)) H locs ph := by
  obtain ⟨h1, h2, h3, h4, h5⟩ := h
  refine ⟨z_ht_map hp h1, ⟨fun a t ht => ?_, (fun h => by rw [hpu] at h; cases h), z_fin_tr h2.2.2 fun b u ci fl hb hty2 => ?_⟩, fun a t ht => ?_, fun q hq1 hq2 hq3 => ?_, h5⟩
  · cases hT : T a with
    | none => simp [hT] at ht
    | some u => exact h2.1 a u hT
  · have hlt : u < TY.length := (List.getElem?_eq_some_iff.mp hty2).1
    have g1 := List.all_eq_true.mp hp u (List.mem_range.mpr hlt)
    split at g1
    · rename_i x y hx hy
      rw [hty2] at hx
      cases hx
      match y, g1, hy with
      | .inl q, g1, hy =>
        simp only [z_tle, Bool.and_eq_true] at g1
        obtain ⟨qc, qf⟩ := q
        have hq : ci = qc := z_beq g1.1.1
        subst hq
        exact ⟨_, qf, by simp [hb], hy, fun r k2 w x1 x2 x3 x4 => x4⟩
      | .inr q, g1, hy => simp [z_tle] at g1
    · cases g1
  · have := h3 a t ht
    simp only [this]
    rfl
  · obtain ⟨g1, g2⟩ := h4 q hq1 hq2 hq3
    exact ⟨by simp [g1], g2⟩
theorem z_fx_map {n0 ph : Nat} : ∀ {X : List (Nat × Nat)}, z_fx D cl T sz n0 raw H env X → z_fx D cl (fun b => (T b).map (z_phi PHI ph)) sz n0 raw H env X
  | [], h => h
  | x :: X, ⟨⟨b, h1, h2, h3⟩, hr⟩ => ⟨⟨b, h1, by simp [h2], h3⟩, z_fx_map hr⟩
theorem z_rty_ok (hpu : pu = false) (hg : z_Good p l e R s m args below meth c Q OB D DA cl TY PHI sz raw pu T0 H0 env0 nL good) {ph : Nat} (hp : z_phok TY PHI ph = true) (h : z_rty PHI st ph = some st') (k : good pc st') : good pc st := by
  refine (hg _ _).mpr fun T H locs env ls stk hs => ?_
  obtain ⟨hc, rfl⟩ := z_cond h
  have h0 : z_ph st = 0 := z_beq hc
  have hmem := hs.2.2.2.2.2.2.2.2.2
  rw [h0] at hmem
  refine (hg _ _).mp k (fun b => (T b).map (z_phi PHI ph)) H locs env ls stk ⟨hs.1, hs.2.1, hs.2.2.1, hs.2.2.2.1, fun f hf => ?_, hs.2.2.2.2.2.1, hs.2.2.2.2.2.2.1, hs.2.2.2.2.2.2.2.1, z_fx_map hs.2.2.2.2.2.2.2.2.1, z_mem_map hpu hp hmem⟩
  obtain ⟨q, hq, rfl⟩ := List.mem_map.mp hf
  obtain ⟨v, e1, e2⟩ := hs.2.2.2.2.1 q hq
  exact ⟨v, e1, z_mp_ok (fun b => rfl) e2⟩
theorem z_r_lconst (hg : z_Good p l e R s m args below meth c Q OB D DA cl TY PHI sz raw pu T0 H0 env0 nL good) (hx : p.tables.exec = Jvm.exec) (hb : c.code = cc) {n : Fin 2} (hd : decode cc pc = .ok (.lconst n, 1)) (h : z_lc0 st = some st') (k : good (pc + 1) st') : good pc st := by
  refine (hg _ _).mpr fun T H locs env ls stk hs => ?_
  cases h
  exact lv_lconst hx hb hd rfl ((hg _ _).mp k T H locs _ ls _ (z_sat_psh hs hs.2.2.2.1 (c := .inr (.inr 0)) ⟨_, rfl⟩ (fun q hq => absurd hq List.not_mem_nil)))
theorem z_r_lshl (hg : z_Good p l e R s m args below meth c Q OB D DA cl TY PHI sz raw pu T0 H0 env0 nL good) (hx : p.tables.exec = Jvm.exec) (hb : c.code = cc) (hd : decode cc pc = .ok (.lshl, 1)) (h : z_lsh st = some st') (k : good (pc + 1) st') : good pc st := by
  refine (hg _ _).mpr fun T H locs env ls stk hs => ?_
  unfold z_lsh at h
  split at h
  · rename_i y x S hS
    split at h
    · rename_i r hxx hyy
      cases h
      obtain ⟨vy, k1, rfl, e1, vx, k2, rfl, e2, hk2⟩ := z_stk_cons hS hs.2.2.2.1
      obtain ⟨v, e3, x1, rfl⟩ := z_get_ok hs.2.2.2.2.1 hxx
      obtain ⟨w, e4, y1, rfl, _⟩ := z_get_ok hs.2.2.2.2.1 hyy
      have q1 : vx = .long x1 := Option.some.inj (e2.symm.trans e3)
      have q2 : vy = .int y1 := Option.some.inj (e1.symm.trans e4)
      subst q1; subst q2
      exact lv_lshl hx hb hd rfl ((hg _ _).mp k T H locs _ ls _ (z_sat_psh hs hk2 (c := .inr (.inr 0)) ⟨_, rfl⟩ (fun q hq => absurd hq List.not_mem_nil)))
    · cases h
  · cases h
theorem z_r_lor (hg : z_Good p l e R s m args below meth c Q OB D DA cl TY PHI sz raw pu T0 H0 env0 nL good) (hx : p.tables.exec = Jvm.exec) (hb : c.code = cc) (hd : decode cc pc = .ok (.lor, 1)) (h : z_l2 (.inr (.inr 0)) st = some st') (k : good (pc + 1) st') : good pc st := by
  refine (hg _ _).mpr fun T H locs env ls stk hs => ?_
  unfold z_l2 at h
  split at h
  · rename_i y x S hS
    split at h
    · rename_i hxx hyy
      cases h
      obtain ⟨vy, k1, rfl, e1, vx, k2, rfl, e2, hk2⟩ := z_stk_cons hS hs.2.2.2.1
      obtain ⟨v, e3, x1, rfl⟩ := z_get_ok hs.2.2.2.2.1 hxx
      obtain ⟨w, e4, y1, rfl⟩ := z_get_ok hs.2.2.2.2.1 hyy
      have q1 : vx = .long x1 := Option.some.inj (e2.symm.trans e3)
      have q2 : vy = .long y1 := Option.some.inj (e1.symm.trans e4)
      subst q1; subst q2
      exact lv_lor hx hb hd ((hg _ _).mp k T H locs _ ls _ (z_sat_psh hs hk2 (c := .inr (.inr 0)) ⟨_, rfl⟩ (fun q hq => absurd hq List.not_mem_nil)))
    · cases h
  · cases h
theorem z_r_lcmp (hg : z_Good p l e R s m args below meth c Q OB D DA cl TY PHI sz raw pu T0 H0 env0 nL good) (hx : p.tables.exec = Jvm.exec) (hb : c.code = cc) (hd : decode cc pc = .ok (.lcmp, 1)) (h : z_l2 (.inl z_full) st = some st') (k : good (pc + 1) st') : good pc st := by
  refine (hg _ _).mpr fun T H locs env ls stk hs => ?_
  unfold z_l2 at h
  split at h
  · rename_i y x S hS
    split at h
    · rename_i hxx hyy
      cases h
      obtain ⟨vy, k1, rfl, e1, vx, k2, rfl, e2, hk2⟩ := z_stk_cons hS hs.2.2.2.1
      obtain ⟨v, e3, x1, rfl⟩ := z_get_ok hs.2.2.2.2.1 hxx
      obtain ⟨w, e4, y1, rfl⟩ := z_get_ok hs.2.2.2.2.1 hyy
      have q1 : vx = .long x1 := Option.some.inj (e2.symm.trans e3)
      have q2 : vy = .long y1 := Option.some.inj (e1.symm.trans e4)
      subst q1; subst q2
      exact W.lcmp hx hb hd ((hg _ _).mp k T H locs _ ls _ (z_sat_psh hs hk2 (z_vi (z_in_full _)) (fun q hq => absurd hq List.not_mem_nil)))
    · cases h
  · cases h
end ZMAKES2
end
section
/-! Contracts: what a method asks and what it answers. -/
abbrev zLoc : Type := Nat × Nat × Nat × Option Nat
abbrev zP : Type := List (Nat × zV) × Option zV × List (zV × Option Int × Option Int) × List (zLoc × zV)
/-- parameters; the class of a raw first one; places with what they hold at first; ends; nothing written; cells and slots; frames and locals; retyping -/
abbrev zSig : Type := List zV × Option Nat × List (zLoc × zV) × List zP × Bool × (Nat × Nat) × (Nat × Nat) × Nat
abbrev g_prm (g : zSig) := g.1
abbrev g_raw (g : zSig) := g.2.1
abbrev g_loc (g : zSig) := g.2.2.1
abbrev g_pst (g : zSig) := g.2.2.2.1
abbrev g_pur (g : zSig) := g.2.2.2.2.1
abbrev g_mk (g : zSig) := g.2.2.2.2.2.1
abbrev g_rm (g : zSig) := g.2.2.2.2.2.2.1
abbrev g_ph (g : zSig) := g.2.2.2.2.2.2.2
/-- what stands in a place that is named from an argument on -/
def z_lv (D : va_G) (cl : List vw_C) (H : Heap) (o : Option Value) (q : zLoc) (w : Value) : Prop := ∃ a r, o = some (.ref a) ∧ cl[q.2.1]? = some r ∧ q.2.2.1 < r.2.2 ∧ (match q.2.2.2 with
  | none => z_sl H a (D.2 q.2.1 q.2.2.1) w
  | some c => ∃ b : Nat, z_sl H a (D.2 q.2.1 q.2.2.1) (.ref b) ∧ z_sl H b c w)
theorem z_sl_fun {H : Heap} {a k : Nat} {v w : Value} (h : z_sl H a k v) (h2 : z_sl H a k w) : v = w := by
  obtain ⟨c1, e1, _, e3⟩ := h
  obtain ⟨c2, f1, _, f3⟩ := h2
  rw [e1] at f1
  cases f1
  rw [e3] at f3
  exact Option.some.inj f3
theorem z_lv_fun {D : va_G} {cl : List vw_C} {H : Heap} {o : Option Value} {q : zLoc} {v w : Value} (h : z_lv D cl H o q v) (h2 : z_lv D cl H o q w) : v = w := by
  obtain ⟨a, r, e1, e2, e3, e4⟩ := h
  obtain ⟨b, r2, f1, f2, f3, f4⟩ := h2
  rw [e1] at f1
  cases f1
  rcases q with ⟨j, ci, k, _ | c⟩
  · exact z_sl_fun e4 f4
  · obtain ⟨x, x1, x2⟩ := e4
    obtain ⟨y, y1, y2⟩ := f4
    have := z_sl_fun x1 y1
    cases this
    exact z_sl_fun x2 y2
/-- a symbol for what a field holds -/
def z_gf (TY : List zTy) (st : zS) (d ci k : Nat) : Option (zS × Nat) := match z_ffind st d ci k with
  | some w => some (st, w)
  | none => (match z_get (z_V st) d with
    | some (.inr (.inl t)) => (match TY[t]? with
      | some (.inl o) => (match o.2[k]? with
        | some c => cond (Nat.beq o.1 ci) (some ((z_L st, z_S st, z_n st + 1, (z_n st, c) :: z_V st, (d, ci, k, z_n st) :: z_F st, z_E st, z_R st, z_X st, z_C st, z_ph st), z_n st)) none
        | none => none)
      | _ => none)
    | _ => none)
/-- a symbol for a constant -/
def z_gc (st : zS) (c : Nat) : zS := (z_L st, z_S st, z_n st + 1, (z_n st, .inl ((c : Int), (c : Int))) :: z_V st, z_F st, z_E st, z_R st, z_X st, z_C st, z_ph st)
/-- a symbol for what an entry holds -/
def z_ge (TY : List zTy) (st : zS) (d j c : Nat) : Option (zS × Nat) := match z_efind st d j with
  | some w => some (st, w)
  | none => (match z_get (z_V st) d with
    | some (.inr (.inl t)) => (match TY[t]? with
      | some (.inr q) => (match z_seg q.2.2 ((c : Int), (c : Int)) with
        | some v => cond (Nat.blt c q.2.1.1) (some ((z_L st, z_S st, z_n st + 1, (z_n st, v) :: z_V st, z_F st, (d, j, z_n st) :: z_E st, z_R st, z_X st, z_C st, z_ph st), z_n st)) none
        | none => none)
      | _ => none)
    | _ => none)
def z_gl (TY : List zTy) (st : zS) (d : Nat) (q : zLoc) : Option (zS × Nat) := match z_gf TY st d q.2.1 q.2.2.1 with
  | some (st1, w) => (match q.2.2.2 with
    | none => some (st1, w)
    | some c => cond (Nat.ble c 1000000) (z_ge TY (z_gc st1 c) w (z_n st1) c) none)
  | none => none
/-- the same but for what is known -/
def z_ext (st st' : zS) : Prop := z_L st' = z_L st ∧ z_S st' = z_S st ∧ z_X st' = z_X st ∧ z_C st' = z_C st ∧ z_ph st' = z_ph st ∧ z_n st ≤ z_n st'
section ZGH
variable {OB : Nat → Nat} {D : va_G} {DA : Nat → ClassId} {cl : List vw_C} {TY : List zTy} {PHI : List (List Nat)} {sz : Nat} {raw : Option Nat} {pu : Bool} {T0 : zTp} {H0 : Heap} {env0 : List Value} {nL : Nat} {st st' : zS} {T : zTp} {H : Heap} {locs : List Loc} {env : List Value} {ls : Array Slot} {stk : List Value}
theorem z_pre_app {w1 : List Value} {v : Value} (h : ∃ w, env = env0 ++ w) : ∃ w, env ++ [v] = env0 ++ w := by
  obtain ⟨w, hw⟩ := h
  exact ⟨w ++ [v], by rw [hw, List.append_assoc]⟩
theorem z_gf_ok {d ci k w : Nat} (h : z_gf TY st d ci k = some (st', w)) (hs : z_sat OB D DA cl TY PHI sz raw pu T0 H0 env0 nL st T H locs env ls stk) :
    ∃ (x : List Value) (a : Nat) (v : Value), z_sat OB D DA cl TY PHI sz raw pu T0 H0 env0 nL st' T H locs (env ++ x) ls stk ∧ z_ext st st' ∧ env[d]? = some (.ref a) ∧ (env ++ x)[w]? = some v ∧ z_sl H a (D.2 ci k) v := by
  unfold z_gf at h
  split at h
  · rename_i w2 hw
    cases h
    obtain ⟨a, v, e1, e2, e3⟩ := z_ffind_ok hw hs
    exact ⟨[], a, v, by rw [List.append_nil]; exact hs, ⟨rfl, rfl, rfl, rfl, rfl, Nat.le_refl _⟩, e1, by rw [List.append_nil]; exact e2, e3⟩
  · split at h
    · rename_i t ht
      split at h
      · rename_i o ho
        split at h
        · rename_i c0 hc0
          obtain ⟨hb1, hh⟩ := z_cond h
          cases hh
          obtain ⟨ci2, fl⟩ := o
          have ho1 : ci2 = ci := z_beq hb1
          subst ho1
          obtain ⟨a, r, V, g1, g2, g3, g4, g5, g6⟩ := z_obj hs ht ho
          have hlt : k < r.2.2 := by rw [← g4]; exact (List.getElem?_eq_some_iff.mp hc0).1
          have hsl : z_sl H a (D.2 ci2 k) (V k) := by
            obtain ⟨cell, x1, x2, x3, x4⟩ := g5
            exact ⟨cell, x1, x3, x4 _ hlt⟩
          have hn : (env ++ [V k])[z_n st]? = some (V k) := by rw [← hs.1]; simp
          refine ⟨[V k], a, V k, ⟨by show (env ++ [V k]).length = z_n st + 1; rw [List.length_append, hs.1]; rfl, z_pre_app (w1 := []) hs.2.1, z_ls_app hs.2.2.1, z_stk_app hs.2.2.2.1, fun f hf => ?_, fun f hf => ?_, z_fe_app hs.2.2.2.2.2.2.1, z_fr_app hs.2.2.2.2.2.2.2.1, z_fx_app hs.2.2.2.2.2.2.2.2.1, hs.2.2.2.2.2.2.2.2.2⟩, ⟨rfl, rfl, rfl, rfl, rfl, Nat.le_succ _⟩, g1, hn, hsl⟩
          · rcases List.mem_cons.mp hf with rfl | hf
            · exact ⟨_, hn, g6 _ _ hc0⟩
            · exact z_fv_app hs.2.2.2.2.1 f hf
          · rcases List.mem_cons.mp hf with rfl | hf
            · exact ⟨a, _, r, z_app g1, hn, g3, hlt, hsl⟩
            · exact z_ff_app hs.2.2.2.2.2.1 f hf
        · cases h
      · cases h
    · cases h
theorem z_gc_ok {c : Nat} (hc : c ≤ 1000000) (hs : z_sat OB D DA cl TY PHI sz raw pu T0 H0 env0 nL st T H locs env ls stk) : ∃ i : Int32, i.toInt = (c : Int) ∧ (env ++ [.int i])[z_n st]? = some (.int i) ∧ z_sat OB D DA cl TY PHI sz raw pu T0 H0 env0 nL (z_gc st c) T H locs (env ++ [.int i]) ls stk := by
  have hi : (Int32.ofNat c).toInt = (c : Int) := Int32.toInt_ofNat_of_lt (by omega)
  have hn : (env ++ [Value.int (Int32.ofNat c)])[z_n st]? = some (.int (Int32.ofNat c)) := by rw [← hs.1]; simp
  refine ⟨Int32.ofNat c, hi, hn, by show (env ++ [Value.int (Int32.ofNat c)]).length = z_n st + 1; rw [List.length_append, hs.1]; rfl, z_pre_app (w1 := []) hs.2.1, z_ls_app hs.2.2.1, z_stk_app hs.2.2.2.1, fun f hf => ?_, z_ff_app hs.2.2.2.2.2.1, z_fe_app hs.2.2.2.2.2.2.1, z_fr_app hs.2.2.2.2.2.2.2.1, z_fx_app hs.2.2.2.2.2.2.2.2.1, hs.2.2.2.2.2.2.2.2.2⟩
  rcases List.mem_cons.mp hf with rfl | hf
  · exact ⟨_, hn, z_vi ⟨by rw [hi]; exact Int.le_refl _, by rw [hi]; exact Int.le_refl _⟩⟩
  · exact z_fv_app hs.2.2.2.2.1 f hf
theorem z_ge_ok {d j c w : Nat} {i : Int32} (hi : i.toInt = (c : Int)) (hj : env[j]? = some (.int i)) (h : z_ge TY st d j c = some (st', w)) (hs : z_sat OB D DA cl TY PHI sz raw pu T0 H0 env0 nL st T H locs env ls stk) :
    ∃ (x : List Value) (b : Nat) (v : Value), z_sat OB D DA cl TY PHI sz raw pu T0 H0 env0 nL st' T H locs (env ++ x) ls stk ∧ z_ext st st' ∧ env[d]? = some (.ref b) ∧ (env ++ x)[w]? = some v ∧ z_sl H b c v := by
  unfold z_ge at h
  split at h
  · rename_i w2 hw
    cases h
    obtain ⟨a, v, e1, e2, e3, e4⟩ := z_efind_ok hw hs hj
    rw [hi] at e4
    exact ⟨[], a, v, by rw [List.append_nil]; exact hs, ⟨rfl, rfl, rfl, rfl, rfl, Nat.le_refl _⟩, e1, by rw [List.append_nil]; exact e2, by simpa using e4⟩
  · split at h
    · rename_i t ht
      split at h
      · rename_i q hq
        split at h
        · rename_i v0 hv0
          obtain ⟨hb1, hh⟩ := z_cond h
          cases hh
          obtain ⟨ek, ⟨lo, hi2⟩, sg⟩ := q
          have hlt := z_blt hb1
          obtain ⟨a, n, f, g1, g2, g3, g4, g5, g6, g7⟩ := z_arr hs ht hq
          have hcn : c < n := Nat.lt_of_lt_of_le hlt g4
          have hsl : z_sl H a c (f c) := ⟨_, g3, rfl, arrV_read _ _ hcn⟩
          unfold z_seg at hv0
          cases hfi : sg.find? (fun g => z_ile (g.1.1 : Int) ((c : Int), (c : Int)).1 && z_ile ((c : Int), (c : Int)).2 (g.1.2 : Int)) with
          | none => rw [hfi] at hv0; cases hv0
          | some g =>
            rw [hfi] at hv0
            cases hv0
            have hm := List.mem_of_find?_eq_some hfi
            have hp := List.find?_some hfi
            rw [Bool.and_eq_true] at hp
            have p1 := z_ile_ok hp.1
            have p2 := z_ile_ok hp.2
            have hv := g7 g hm c hcn (by omega) (by omega)
            have hn : (env ++ [f c])[z_n st]? = some (f c) := by rw [← hs.1]; simp
            refine ⟨[f c], a, f c, ⟨by show (env ++ [f c]).length = z_n st + 1; rw [List.length_append, hs.1]; rfl, z_pre_app (w1 := []) hs.2.1, z_ls_app hs.2.2.1, z_stk_app hs.2.2.2.1, fun f2 hf => ?_, z_ff_app hs.2.2.2.2.2.1, fun f2 hf => ?_, z_fr_app hs.2.2.2.2.2.2.2.1, z_fx_app hs.2.2.2.2.2.2.2.2.1, hs.2.2.2.2.2.2.2.2.2⟩, ⟨rfl, rfl, rfl, rfl, rfl, Nat.le_succ _⟩, g1, hn, hsl⟩
            · rcases List.mem_cons.mp hf with rfl | hf
              · exact ⟨_, hn, hv⟩
              · exact z_fv_app hs.2.2.2.2.1 f2 hf
            · rcases List.mem_cons.mp hf with rfl | hf
              · exact ⟨a, i, _, z_app g1, z_app hj, by omega, hn, by rw [hi]; simpa using hsl⟩
              · exact z_fe_app hs.2.2.2.2.2.2.1 f2 hf
        · cases h
      · cases h
    · cases h
theorem z_gl_ok {d w : Nat} {q : zLoc} {r : vw_C} (hr : cl[q.2.1]? = some r) (hk : q.2.2.1 < r.2.2) (h : z_gl TY st d q = some (st', w)) (hs : z_sat OB D DA cl TY PHI sz raw pu T0 H0 env0 nL st T H locs env ls stk) :
    ∃ (x : List Value) (v : Value), z_sat OB D DA cl TY PHI sz raw pu T0 H0 env0 nL st' T H locs (env ++ x) ls stk ∧ z_ext st st' ∧ (env ++ x)[w]? = some v ∧ z_lv D cl H (env[d]?) q v := by
  unfold z_gl at h
  split at h
  · rename_i st1 w1 h1
    obtain ⟨x, a, v, g1, g2, g3, g4, g5⟩ := z_gf_ok h1 hs
    split at h
    · rename_i ho
      cases h
      refine ⟨x, v, g1, g2, g4, a, r, g3, hr, hk, ?_⟩
      rw [ho]
      exact g5
    · rename_i c ho
      cases hc : Nat.ble c 1000000 with
      | false => rw [hc] at h; cases h
      | true =>
        rw [hc] at h
        obtain ⟨i, i1, i2, i3⟩ := z_gc_ok (Nat.le_of_ble_eq_true hc) g1
        obtain ⟨y, b, v2, k1, k2, k3, k4, k5⟩ := z_ge_ok i1 i2 h i3
        rw [z_app g4] at k3
        cases k3
        refine ⟨x ++ [.int i] ++ y, v2, by rw [← List.append_assoc, ← List.append_assoc]; exact k1, ?_, by rw [← List.append_assoc, ← List.append_assoc]; exact k4, a, r, g3, hr, hk, ?_⟩
        · obtain ⟨a1, a2, a3, a4, a5, a6⟩ := g2
          obtain ⟨b1, b2, b3, b4, b5, b6⟩ := k2
          exact ⟨b1.trans a1, b2.trans a2, b3.trans a3, b4.trans a4, b5.trans a5, Nat.le_trans a6 (Nat.le_trans (Nat.le_succ _) b6)⟩
        · rw [ho]
          exact ⟨b, g5, k5⟩
  · cases h
end ZGH
end
section
/-! Entry and end of a method. -/
def z_tys (DA : Nat → ClassId) : List (ClassId × FieldType) := [(DA 0, .int), (DA 1, .byte), (DA 2, .long)]
def z_gls (TY : List zTy) (cl : List vw_C) (As : List Nat) : List (zLoc × zV) → zS → Option (zS × List Nat)
  | [], st => some (st, [])
  | q :: r, st => match As[q.1.1]?, cl[q.1.2.1]? with
    | some d, some c => cond (Nat.blt q.1.2.2.1 c.2.2) (match z_gl TY st d q.1 with
      | some (st1, w) => (match z_gls TY cl As r st1 with
        | some (st2, ws) => some (st2, w :: ws)
        | none => none)
      | none => none) none
    | _, _ => none
def z_en : Nat → List zV → List (Nat × zV)
  | _, [] => []
  | i, c :: r => (i, c) :: z_en (i + 1) r
theorem z_en_mem : ∀ {L : List zV} {i : Nat} {q : Nat × zV}, q ∈ z_en i L → ∃ j, L[j]? = some q.2 ∧ q.1 = i + j
  | [], i, q, h => absurd h List.not_mem_nil
  | c :: r, i, q, h => by
    rcases List.mem_cons.mp h with rfl | h
    · exact ⟨0, rfl, rfl⟩
    · obtain ⟨j, h1, h2⟩ := z_en_mem h
      exact ⟨j + 1, by simpa using h1, by omega⟩
def z_c1 (c : zV) : Bool := match c with
  | .inl _ => true
  | .inr (.inl _) => true
  | .inr (.inr 0) => false
  | .inr (.inr (_ + 1)) => true
def z_Pre (OB : Nat → Nat) (D : va_G) (DA : Nat → ClassId) (cl : List vw_C) (FT : Nat → Nat → FieldType) (TY : List zTy) (sz : Nat) (KX : State → Heap → Prop) (g : zSig) (T : zTp) (args : Array Value) (U : State) : Prop :=
  ∃ vals : List Value, args = vals.toArray ∧ vals.length = (g_prm g).length ∧
    (∀ j c, (g_prm g)[j]? = some c → (g_raw g = none ∨ j ≠ 0) → ∃ v, vals[j]? = some v ∧ z_v OB T c v) ∧
    (∀ ci, g_raw g = some ci → ∃ a r V, vals[0]? = some (.ref a) ∧ T a = none ∧ sz ≤ a ∧ cl[ci]? = some r ∧ t_OB a (D.1 ci) r.2.2 (D.2 ci) U.heap V ∧ ∀ k, k < r.2.2 → z_zf (FT ci k) = true → V k = .int 0) ∧
    (∀ q ∈ g_loc g, ∃ w, z_lv D cl U.heap (vals[q.1.1]?) q.1 w ∧ z_v OB T q.2 w) ∧
    z_ht OB D DA cl TY T U.heap ∧ (∀ a t, T a = some t → sz ≤ a) ∧ sz ≤ U.heap.size ∧ va_K D cl (z_tys DA) U ∧ KX U U.heap
/-- one of a method's ends -/
def z_Cs (OB : Nat → Nat) (D : va_G) (cl : List vw_C) (g : zSig) (T' : zTp) (vals : List Value) (H H' : Heap) (v : Option Value) (P : zP) : Prop :=
  (∀ q ∈ P.1, ∃ x, vals[q.1]? = some x ∧ z_v OB T' q.2 x) ∧
  (match P.2.1, v with
    | none, none => True
    | some c, some x => z_v OB T' c x
    | _, _ => False) ∧
  (∀ q ∈ P.2.2.2, ∃ w, z_lv D cl H' (vals[q.1.1]?) q.1 w ∧ z_v OB T' q.2 w) ∧
  (∀ (i : Nat) (q : zLoc × zV) (h : zV × Option Int × Option Int), (g_loc g)[i]? = some q → P.2.2.1[i]? = some h → ∃ w0 w, z_lv D cl H (vals[q.1.1]?) q.1 w0 ∧ z_lv D cl H' (vals[q.1.1]?) q.1 w ∧ z_v OB T' h.1 w ∧
    (∀ k, h.2.1 = some k → ∃ x y : Int32, w0 = .int x ∧ w = .int y ∧ x.toInt + k ≤ y.toInt) ∧ (∀ k, h.2.2 = some k → ∃ x y : Int32, w0 = .int x ∧ w = .int y ∧ y.toInt ≤ x.toInt + k))
def z_Post (OB : Nat → Nat) (D : va_G) (DA : Nat → ClassId) (cl : List vw_C) (TY : List zTy) (PHI : List (List Nat)) (sz : Nat) (g : zSig) (T : zTp) (args : Array Value) (st : State) (o : Outcome) (t : State) : Prop :=
  ∃ (vals : List Value) (v : Option Value) (T' : zTp), args = vals.toArray ∧ o = .returned v ∧ z_ht OB D DA cl TY T' t.heap ∧ (∀ a u, T' a = some u → sz ≤ a) ∧ (∀ a u, T a = some u → T' a = some (z_phi PHI (g_ph g) u)) ∧
    (∀ q, q < st.heap.size → T q = none → ((g_raw g).isSome = true → vals[0]? ≠ some (.ref q)) → T' q = none ∧ t.heap[q]? = st.heap[q]?) ∧ st.heap.size ≤ t.heap.size ∧ (∀ q, q < st.heap.size → ¬ sz ≤ q → t.heap[q]? = st.heap[q]?) ∧
    ((g_pur g = true → t.heap = st.heap ∧ T' = T) ∧ z_fin D cl TY T st.heap T' t.heap) ∧ ∃ P ∈ g_pst g, z_Cs OB D cl g T' vals st.heap t.heap v P
/-- the state at the entry, and the symbols of the places -/
def z_ent (TY : List zTy) (cl : List vw_C) (FT : Nat → Nat → FieldType) (nL : Nat) (g : zSig) : Option (zS × List Nat) :=
  cond ((g_prm g).all z_c1 && Nat.ble (g_prm g).length nL) (match g_raw g with
    | none => (match z_gls TY cl (List.range (g_prm g).length) (g_loc g) ((List.range (g_prm g).length).map (fun i => (i, i)), [], (g_prm g).length, z_en 0 (g_prm g), [], [], [], [], (0, 0), 0) with
      | some (st, ws) => some (z_mor st [] (ws.zip ((g_loc g).map (fun q => q.2))) [], ws)
      | none => none)
    | some ci => (match cl[ci]?, g_loc g, g_prm g with
      | some r, [], _ :: ps => some (((List.range (ps.length + 1)).map (fun i => (i, i)), [], ps.length + 2, (ps.length + 1, .inl (0, 0)) :: z_en 1 ps, ((List.range r.2.2).filter (fun k => z_zf (FT ci k))).map (fun k => (0, ci, k, ps.length + 1)), [], [], [(0, ci)], (0, 0), 0), [])
      | _, _, _ => none)) none
/-- the ends that fit -/
def z_ret (TY : List zTy) (cl : List vw_C) (g : zSig) (ws : List Nat) (st : zS) (rid : Option Nat) : Bool :=
  Nat.beq (z_ph st) (g_ph g) && Nat.ble (z_C st).1 (g_mk g).1 && Nat.ble (z_C st).2 (g_mk g).2 &&
  (match z_gls TY cl (List.range (g_prm g).length) (g_loc g) st with
    | some (st2, fs) => (g_pst g).any (fun P => P.1.all (fun q => match z_get (z_V st2) q.1 with
        | some c => z_le c q.2 && Nat.blt q.1 (g_prm g).length
        | none => false) &&
      (match P.2.1, rid with
        | none, none => true
        | some c, some r => (match z_get (z_V st2) r with
          | some c' => z_le c' c
          | none => false)
        | _, _ => false) &&
      (match z_gls TY cl (List.range (g_prm g).length) P.2.2.2 st2 with
        | some (st3, ns) => (List.range P.2.2.2.length).all (fun i => match P.2.2.2[i]?, ns[i]? with
          | some q, some w => (match z_get (z_V st3) w with
            | some c => z_le c q.2
            | none => false)
          | _, _ => false)
        | none => false) &&
      (List.range (g_loc g).length).all (fun i => match P.2.2.1[i]?, ws[i]?, fs[i]? with
        | some h, some w0, some w => (match z_get (z_V st2) w with
          | some c => z_le c h.1
          | none => false) && (match h.2.1 with
          | some k => z_isi st2 w && z_isi st2 w0 && z_kx (z_R st2) w w0 k
          | none => true) && (match h.2.2 with
          | some k => z_isi st2 w && z_isi st2 w0 && z_kx (z_R st2) w0 w (-k)
          | none => true)
        | none, _, _ => true
        | _, _, _ => false))
    | none => false)
section ZENDS
variable {OB : Nat → Nat} {D : va_G} {DA : Nat → ClassId} {cl : List vw_C} {FT : Nat → Nat → FieldType} {TY : List zTy} {PHI : List (List Nat)} {sz : Nat} {raw : Option Nat} {pu : Bool} {T0 : zTp} {H0 : Heap} {env0 : List Value} {nL : Nat} {st st' : zS} {T : zTp} {H : Heap} {locs : List Loc} {env : List Value} {ls : Array Slot} {stk : List Value}
theorem z_ext_rf : z_ext st st := ⟨rfl, rfl, rfl, rfl, rfl, Nat.le_refl _⟩
theorem z_ext_tr {s1 s2 s3 : zS} (a : z_ext s1 s2) (b : z_ext s2 s3) : z_ext s1 s3 := by
  obtain ⟨a1, a2, a3, a4, a5, a6⟩ := a
  obtain ⟨b1, b2, b3, b4, b5, b6⟩ := b
  exact ⟨b1.trans a1, b2.trans a2, b3.trans a3, b4.trans a4, b5.trans a5, Nat.le_trans a6 b6⟩
theorem z_lv_app {d : Nat} {x : List Value} {q : zLoc} {v : Value} (h : z_lv D cl H (env[d]?) q v) : z_lv D cl H ((env ++ x)[d]?) q v := by
  obtain ⟨a, r, e1, e2⟩ := h
  exact ⟨a, r, z_app e1, e2⟩
theorem z_gls_ok {As : List Nat} : ∀ {L : List (zLoc × zV)} {st st' : zS} {env : List Value} {ws : List Nat}, z_gls TY cl As L st = some (st', ws) → z_sat OB D DA cl TY PHI sz raw pu T0 H0 env0 nL st T H locs env ls stk →
    ∃ x, z_sat OB D DA cl TY PHI sz raw pu T0 H0 env0 nL st' T H locs (env ++ x) ls stk ∧ z_ext st st' ∧ ws.length = L.length ∧ ∀ (i : Nat) (q : zLoc × zV) (w : Nat), L[i]? = some q → ws[i]? = some w → ∃ (v : Value) (d : Nat), (env ++ x)[w]? = some v ∧ As[q.1.1]? = some d ∧ z_lv D cl H ((env ++ x)[d]?) q.1 v
  | [], st, st', env, ws, h, hs => by
    cases h
    exact ⟨[], by rw [List.append_nil]; exact hs, z_ext_rf, rfl, fun i q w h1 => by simp at h1⟩
  | q :: r, st, st', env, ws, h, hs => by
    unfold z_gls at h
    split at h
    · rename_i d c hd hc
      cases hb : Nat.blt q.1.2.2.1 c.2.2 with
      | false => rw [hb] at h; cases h
      | true =>
        rw [hb] at h
        cases h1 : z_gl TY st d q.1 with
        | none => rw [h1] at h; cases h
        | some y =>
          obtain ⟨st1, w⟩ := y
          rw [h1] at h
          obtain ⟨x, v, g1, g2, g3, g4⟩ := z_gl_ok hc (z_blt hb) h1 hs
          cases h2 : z_gls TY cl As r st1 with
          | none => simp only [h2] at h; cases h
          | some z =>
            obtain ⟨st2, ws2⟩ := z
            simp only [h2] at h
            cases h
            obtain ⟨x2, k1, k2, k3, k4⟩ := z_gls_ok h2 g1
            refine ⟨x ++ x2, by rw [← List.append_assoc]; exact k1, z_ext_tr g2 k2, by simp [k3], fun i q2 w2 hi hw => ?_⟩
            cases i with
            | zero =>
              have e1 : q = q2 := by simpa using hi
              have e2 : w = w2 := by simpa using hw
              subst e1; subst e2
              exact ⟨v, d, by rw [← List.append_assoc]; exact z_app g3, hd, z_lv_app g4⟩
            | succ i =>
              obtain ⟨v2, d2, m1, m2, m3⟩ := k4 i q2 w2 (by simpa using hi) (by simpa using hw)
              exact ⟨v2, d2, by rw [← List.append_assoc]; exact m1, m2, by rw [← List.append_assoc]; exact m3⟩
    · cases h
end ZENDS
end
section
/-! The entry of a method; its returns. -/
section ZENTRY
variable {p : Program} {l : Launch} {e : Env} {R : Room} {s : State} {m : MethodId} {args : Array Value} {below : List Frame} {meth : Method} {c : Code} {Q : State → Prop} {cc : ByteArray} {pc : Nat}
variable {OB : Nat → Nat} {D : va_G} {DA : Nat → ClassId} {cl : List vw_C} {FT : Nat → Nat → FieldType} {TY : List zTy} {PHI : List (List Nat)} {sz : Nat} {raw : Option Nat} {pu : Bool} {T0 : zTp} {H0 : Heap} {env0 : List Value} {nL : Nat} {st st' : zS} {T : zTp} {H : Heap} {locs : List Loc} {env : List Value} {ls : Array Slot} {stk : List Value} {KX : State → Heap → Prop} {g : zSig}
theorem z_c1_ok {k : zV} {v : Value} (h : z_c1 k = true) (hv : z_v OB T k v) : v.category = 1 := by
  match k, h, hv with
  | .inl r, _, ⟨x, e, _⟩ => rw [e]; rfl
  | .inr (.inl t), _, ⟨a, e, _⟩ => rw [e]; rfl
  | .inr (.inr (k + 1)), _, e => 
    have e : v = .ref (OB k) := e
    rw [e]; rfl
theorem z_args1 : ∀ (vs : List Value) (i : Nat), (∀ v ∈ vs, v.category = 1) → (lg_sl vs).length = vs.length ∧ (∀ q ∈ lv_args i vs, q.2.category = 1) ∧ ∀ j v, vs[j]? = some v → (i + j, v) ∈ lv_args i vs
  | [], i, _ => ⟨rfl, fun q h => absurd h List.not_mem_nil, fun j v h => by simp at h⟩
  | x :: vs, i, h => by
    have hx := h x List.mem_cons_self
    have hne : ¬ x.category = 2 := by omega
    obtain ⟨h1, h2, h3⟩ := z_args1 vs (i + 1) (fun v hv => h v (List.mem_cons_of_mem _ hv))
    have e1 : lg_sl (x :: vs) = [.val x] ++ lg_sl vs := by
      unfold lg_sl
      rw [List.flatMap_cons, if_neg hne]
    have e2 : lv_args i (x :: vs) = (i, x) :: lv_args (i + 1) vs := by
      show (i, x) :: lv_args (if x.category = 2 then i + 2 else i + 1) vs = _
      rw [if_neg hne]
    refine ⟨by rw [e1]; simp [h1], fun q hq => ?_, fun j v hj => ?_⟩
    · rw [e2] at hq
      rcases List.mem_cons.mp hq with rfl | hq
      · exact hx
      · exact h2 q hq
    · rw [e2]
      cases j with
      | zero =>
        have : x = v := by simpa using hj
        rw [this]
        exact List.mem_cons_self
      | succ j =>
        have := h3 j v (by simpa using hj)
        rw [show i + (j + 1) = i + 1 + j by omega]
        exact List.mem_cons_of_mem _ this
theorem z_ls_entry {vals : List Value} (h1 : ∀ v ∈ vals, v.category = 1) (hn : vals.length ≤ nL) {x : List Value} : z_ls nL ((lg_sl vals ++ List.replicate (nL - (lg_sl vals).length) Slot.unset).toArray) (vals ++ x) ((List.range vals.length).map (fun i => (i, i))) := by
  obtain ⟨a1, a2, a3⟩ := z_args1 vals 0 h1
  refine ⟨_, lv_entry vals (by rw [a1]; exact hn), a2, fun q hq => ?_⟩
  obtain ⟨i, hi, rfl⟩ := List.mem_map.mp hq
  have hlt := List.mem_range.mp hi
  have hg := List.getElem?_eq_getElem hlt
  refine ⟨_, z_app hg, ?_⟩
  have := a3 i _ hg
  rwa [Nat.zero_add] at this
theorem z_vals1 {vals : List Value} (hl : vals.length = (g_prm g).length) (hc : (g_prm g).all z_c1 = true) (h1 : ∀ j c, (g_prm g)[j]? = some c → (g_raw g = none ∨ j ≠ 0) → ∃ v, vals[j]? = some v ∧ z_v OB T c v) (h2 : ∀ ci, g_raw g = some ci → ∃ a : Nat, vals[0]? = some (.ref a)) : ∀ v ∈ vals, v.category = 1 := by
  intro v hv
  obtain ⟨j, hj⟩ := List.getElem?_of_mem hv
  have hlt : j < (g_prm g).length := by rw [← hl]; exact (List.getElem?_eq_some_iff.mp hj).1
  have hg := List.getElem?_eq_getElem hlt
  cases hr : g_raw g with
  | none =>
    obtain ⟨w, e1, e2⟩ := h1 j _ hg (Or.inl hr)
    rw [hj] at e1
    cases e1
    exact z_c1_ok (List.all_eq_true.mp hc _ (List.getElem_mem hlt)) e2
  | some ci =>
    by_cases hj0 : j = 0
    · subst hj0
      obtain ⟨a, ha⟩ := h2 ci hr
      rw [hj] at ha
      cases ha
      rfl
    · obtain ⟨w, e1, e2⟩ := h1 j _ hg (Or.inr hj0)
      rw [hj] at e1
      cases e1
      exact z_c1_ok (List.all_eq_true.mp hc _ (List.getElem_mem hlt)) e2
theorem z_sat_env0 (h : z_sat OB D DA cl TY PHI sz raw pu T0 H0 env0 nL st T H locs env ls stk) : z_sat OB D DA cl TY PHI sz raw pu T0 H0 env nL st T H locs env ls stk := ⟨h.1, ⟨[], by rw [List.append_nil]⟩, h.2.2⟩
/-- what the entry gives -/
theorem z_ent_ok {ws : List Nat} {U : State} {vals : List Value} (hp : z_Pre OB D DA cl FT TY sz KX g T vals.toArray U) (h : z_ent TY cl FT nL g = some (st, ws)) :
    (∀ v ∈ vals, v.category = 1) ∧ vals.length ≤ nL ∧ ∃ (env : List Value) (raw : Option Nat), (∀ q, raw = some q ↔ ((g_raw g).isSome = true ∧ vals[0]? = some (.ref q))) ∧
      z_sat OB D DA cl TY PHI sz raw pu T U.heap env nL st T U.heap [] env ((lg_sl vals ++ List.replicate (nL - (lg_sl vals).length) Slot.unset).toArray) [] ∧ vals.length = (g_prm g).length ∧ (∀ (j : Nat) (v : Value), vals[j]? = some v → env[j]? = some v) ∧
      ws.length = (g_loc g).length ∧ (∀ (i : Nat) (q : zLoc × zV) (w : Nat), (g_loc g)[i]? = some q → ws[i]? = some w → ∃ v : Value, env[w]? = some v ∧ z_lv D cl U.heap (vals[q.1.1]?) q.1 v) := by
  obtain ⟨vals2, e0, hl, h1, h2, h3, h4, h5, h6, h7, h8⟩ := hp
  have : vals = vals2 := by
    have := congrArg Array.toList e0
    simpa using this
  subst this
  unfold z_ent at h
  cases hc : ((g_prm g).all z_c1 && Nat.ble (g_prm g).length nL) with
  | false => rw [hc] at h; cases h
  | true =>
    rw [hc] at h
    rw [Bool.and_eq_true] at hc
    have hcat := z_vals1 hl hc.1 h1 (fun ci hci => by obtain ⟨a, r, V, x, _⟩ := h2 ci hci; exact ⟨a, x⟩)
    have hn : vals.length ≤ nL := by rw [hl]; exact Nat.le_of_ble_eq_true hc.2
    refine ⟨hcat, hn, ?_⟩
    have hmem : ∀ raw : Option Nat, z_mem OB D DA cl TY PHI sz raw pu T U.heap T U.heap [] 0 := fun raw => ⟨h4, ⟨h5, fun _ => ⟨rfl, rfl⟩, z_fin_rf⟩, fun a t ht => ht, fun q _ hq _ => ⟨hq, rfl⟩, va_S.rf⟩
    cases hr : g_raw g with
    | none =>
      simp only [hr, cond_true] at h
      have hs0 : z_sat OB D DA cl TY PHI sz none pu T U.heap vals nL ((List.range (g_prm g).length).map (fun i => (i, i)), [], (g_prm g).length, z_en 0 (g_prm g), [], [], [], [], (0, 0), 0) T U.heap [] vals ((lg_sl vals ++ List.replicate (nL - (lg_sl vals).length) Slot.unset).toArray) [] := by
        refine ⟨hl, ⟨[], by rw [List.append_nil]⟩, ?_, rfl, fun q hq => ?_, fun q hq => absurd hq List.not_mem_nil, fun q hq => absurd hq List.not_mem_nil, fun q hq => absurd hq List.not_mem_nil, trivial, hmem none⟩
        · have := z_ls_entry (x := []) hcat hn
          rw [List.append_nil, hl] at this
          exact this
        · obtain ⟨j, hj, he⟩ := z_en_mem hq
          obtain ⟨v, e1, e2⟩ := h1 j _ hj (Or.inl hr)
          rw [he, Nat.zero_add]
          exact ⟨v, e1, e2⟩
      cases hgl : z_gls TY cl (List.range (g_prm g).length) (g_loc g) ((List.range (g_prm g).length).map (fun i => (i, i)), [], (g_prm g).length, z_en 0 (g_prm g), [], [], [], [], (0, 0), 0) with
      | none => rw [hgl] at h; cases h
      | some y =>
        obtain ⟨st1, ws1⟩ := y
        simp only [hgl] at h
        cases h
        obtain ⟨x, g1, g2, g3, g4⟩ := z_gls_ok hgl hs0
        have lookup : ∀ (i : Nat) (q : zLoc × zV) (w : Nat), (g_loc g)[i]? = some q → ws[i]? = some w → ∃ v : Value, (vals ++ x)[w]? = some v ∧ z_lv D cl U.heap (vals[q.1.1]?) q.1 v := by
          intro i q w hi hw
          obtain ⟨v, d, m1, m2, m3⟩ := g4 i q w hi hw
          refine ⟨v, m1, ?_⟩
          have hd := List.getElem?_eq_some_iff.mp m2
          obtain ⟨hd1, hd2⟩ := hd
          have hd3 : d = q.1.1 := by simpa using hd2.symm
          have hlt : q.1.1 < vals.length := by rw [hl]; simpa using hd1
          rw [hd3, List.getElem?_append_left hlt] at m3
          exact m3
        refine ⟨vals ++ x, none, fun q => by simp, z_sat_env0 (z_sat_mor g1 (S := []) rfl (fun q hq => ?_) (fun q hq => absurd hq List.not_mem_nil)), hl, fun j v hj => z_app hj, g3, lookup⟩
        obtain ⟨i, hi⟩ := List.getElem?_of_mem hq
        rw [List.getElem?_zip_eq_some] at hi
        obtain ⟨hi1, hi2⟩ := hi
        rw [List.getElem?_map] at hi2
        cases hq2 : (g_loc g)[i]? with
        | none => rw [hq2] at hi2; cases hi2
        | some q2 =>
          rw [hq2] at hi2
          have hi3 : q2.2 = q.2 := by simpa using hi2
          obtain ⟨v, m1, m2⟩ := lookup i q2 q.1 hq2 hi1
          obtain ⟨w0, n1, n2⟩ := h3 q2 (List.mem_of_getElem? hq2)
          have := z_lv_fun m2 n1
          subst this
          exact ⟨v, m1, by rw [← hi3]; exact n2⟩
    | some ci =>
      simp only [hr, cond_true] at h
      obtain ⟨a, r, V, a1, a2, a3, a4, a5, a6⟩ := h2 ci hr
      split at h
      · rename_i r2 c0 ps hr2 hlo hps
        cases h
        rw [a4] at hr2
        cases hr2
        have hl2 : vals.length = ps.length + 1 := by rw [hl, hps]; rfl
        have n1 : (vals ++ [Value.int 0])[ps.length + 1]? = some (.int 0) := by rw [← hl2]; simp
        refine ⟨vals ++ [.int 0], some a, fun q => ?_, ⟨by show (vals ++ [Value.int 0]).length = ps.length + 2; rw [List.length_append, hl2]; rfl, ⟨[], by rw [List.append_nil]⟩, ?_, rfl, fun q hq => ?_, fun q hq => ?_, fun q hq => absurd hq List.not_mem_nil, fun q hq => absurd hq List.not_mem_nil, ⟨⟨a, z_app a1, a2, ⟨a3, Or.inr rfl⟩, ⟨r, V, a4, a5⟩, fun p hp => absurd hp List.not_mem_nil⟩, trivial⟩, hmem (some a)⟩, hl, fun j v hj => z_app hj, by rw [hlo]; rfl, fun i q w hi => by rw [hlo] at hi; simp at hi⟩
        · rw [a1]
          constructor
          · intro hh; cases hh; exact ⟨rfl, rfl⟩
          · rintro ⟨-, hh⟩; cases hh; rfl
        · have := z_ls_entry (x := [.int 0]) hcat hn
          rw [hl2] at this
          exact this
        · rcases List.mem_cons.mp hq with rfl | hq
          · exact ⟨_, n1, 0, rfl, Int.le_refl _, Int.le_refl _⟩
          · obtain ⟨j, hj, he⟩ := z_en_mem hq
            obtain ⟨v, e1, e2⟩ := h1 (j + 1) q.2 (by rw [hps]; simpa using hj) (Or.inr (by omega))
            rw [he, Nat.add_comm]
            exact ⟨v, z_app e1, e2⟩
        · have hq : q ∈ ((List.range r.2.2).filter (fun k => z_zf (FT ci k))).map (fun k => (0, ci, k, ps.length + 1)) := hq
          obtain ⟨k1, hk1, rfl⟩ := List.mem_map.mp hq
          obtain ⟨hk2, hk3⟩ := List.mem_filter.mp hk1
          have hlt := List.mem_range.mp hk2
          refine ⟨a, .int 0, r, z_app a1, n1, a4, hlt, ?_⟩
          obtain ⟨cell, x1, x2, x3, x4⟩ := a5
          refine ⟨cell, x1, x3, ?_⟩
          show cell.slots[D.2 ci k1]? = some (.int 0)
          rw [x4 _ hlt, a6 k1 hlt hk3]
      · cases h
end ZENTRY
end
section
/-! Returns. -/
section ZRETURN
variable {p : Program} {l : Launch} {e : Env} {R : Room} {s : State} {m : MethodId} {below : List Frame} {meth : Method} {c : Code} {cc : ByteArray} {pc : Nat}
variable {OB : Nat → Nat} {D : va_G} {DA : Nat → ClassId} {cl : List vw_C} {FT : Nat → Nat → FieldType} {TY : List zTy} {PHI : List (List Nat)} {sz : Nat} {raw : Option Nat} {pu : Bool} {T0 : zTp} {H0 : Heap} {env0 : List Value} {nL : Nat} {st st' : zS} {T : zTp} {H : Heap} {locs : List Loc} {env : List Value} {ls : Array Slot} {stk : List Value} {g : zSig} {vals : List Value} {ws : List Nat}
/-- what is known of the entry -/
def z_Ent (D : va_G) (cl : List vw_C) (g : zSig) (raw : Option Nat) (pu : Bool) (H0 : Heap) (env0 : List Value) (vals : List Value) (ws : List Nat) : Prop :=
  (∀ q, raw = some q ↔ ((g_raw g).isSome = true ∧ vals[0]? = some (.ref q))) ∧ (g_pur g = true → pu = true) ∧ vals.length = (g_prm g).length ∧ (∀ (j : Nat) (v : Value), vals[j]? = some v → env0[j]? = some v) ∧
  ws.length = (g_loc g).length ∧ (∀ (i : Nat) (q : zLoc × zV) (w : Nat), (g_loc g)[i]? = some q → ws[i]? = some w → ∃ v : Value, env0[w]? = some v ∧ z_lv D cl H0 (vals[q.1.1]?) q.1 v)
theorem z_kn_int {x y : Nat} {n : Int} (h : (z_isi st x && z_isi st y && z_kx (z_R st) x y n) = true) (hs : z_sat OB D DA cl TY PHI sz raw pu T0 H0 env0 nL st T H locs env ls stk) : ∃ vx vy : Int32, env[x]? = some (.int vx) ∧ env[y]? = some (.int vy) ∧ vy.toInt + n ≤ vx.toInt := by
  simp only [Bool.and_eq_true] at h
  obtain ⟨vx, e1⟩ := z_isi_ok h.1.1 hs
  obtain ⟨vy, e2⟩ := z_isi_ok h.1.2 hs
  exact ⟨vx, vy, e1, e2, z_kx_ok hs.2.2.2.2.2.2.2.1 e1 e2 h.2⟩
theorem z_ret_ok {rid : Option Nat} {v : Option Value} (hE : z_Ent D cl g raw pu s.heap env0 vals ws) (h : z_ret TY cl g ws st rid = true) (hs : z_sat OB D DA cl TY PHI sz raw pu T0 s.heap env0 nL st T H locs env ls stk) (hv : match rid, v with | none, none => True | some r, some x => env[r]? = some x | _, _ => False) {t : State} (ht : t.heap = H) :
    (z_C st).1 ≤ (g_mk g).1 ∧ (z_C st).2 ≤ (g_mk g).2 ∧ z_Post OB D DA cl TY PHI sz g T0 vals.toArray s (.returned v) t := by
  obtain ⟨hraw, hpur, hlen, hvals, hwl, hws⟩ := hE
  unfold z_ret at h
  simp only [Bool.and_eq_true] at h
  obtain ⟨⟨⟨hph, hc1⟩, hc2⟩, h⟩ := h
  refine ⟨Nat.le_of_ble_eq_true hc1, Nat.le_of_ble_eq_true hc2, ?_⟩
  split at h
  · rename_i st2 fs hgl
    obtain ⟨x, g1, g2, g3, g4⟩ := z_gls_ok hgl hs
    obtain ⟨m1, ⟨m2, m3, mf⟩, m4, m5, m6⟩ := hs.2.2.2.2.2.2.2.2.2
    rw [z_beq hph] at m4
    obtain ⟨w0, hw0⟩ := hs.2.1
    have hx0 : ∀ (j : Nat) (v : Value), vals[j]? = some v → (env ++ x)[j]? = some v := fun j v hj => z_app (by rw [hw0]; exact z_app (hvals j v hj))
    have hget : ∀ (w : Nat) (v : Value), env0[w]? = some v → (env ++ x)[w]? = some v := fun w v hw => z_app (by rw [hw0]; exact z_app hw)
    obtain ⟨P, hP, hP2⟩ := List.any_eq_true.mp h
    simp only [Bool.and_eq_true] at hP2
    obtain ⟨⟨⟨hA, hR⟩, hN⟩, hL⟩ := hP2
    subst ht
    refine ⟨vals, v, T, rfl, rfl, m1, m2, m4, fun q hq1 hq2 hq3 => m5 q hq1 hq2 (fun hr => ?_), m6.1, fun q hq1 hq2 => m6.2.1 q hq1 hq2, ⟨fun hp => ?_, mf⟩, P, hP, fun q hq => ?_, ?_, fun q hq => ?_, fun i q hh hi hh2 => ?_⟩
    · obtain ⟨y1, y2⟩ := (hraw q).mp hr
      exact hq3 y1 y2
    · obtain ⟨y1, y2⟩ := m3 (hpur hp)
      exact ⟨y1, y2⟩
    · have h1 := List.all_eq_true.mp hA q hq
      split at h1
      · rename_i c0 hc0
        rw [Bool.and_eq_true] at h1
        obtain ⟨w, e1, e2⟩ := z_get_ok g1.2.2.2.2.1 hc0
        have hlt : q.1 < vals.length := by rw [hlen]; exact z_blt h1.2
        have hg := List.getElem?_eq_getElem hlt
        have := hx0 _ _ hg
        rw [e1] at this
        cases this
        exact ⟨_, hg, z_le_ok h1.1 e2⟩
      · cases h1
    · cases hp2 : P.2.1 with
      | none =>
        rw [hp2] at hR
        cases rid with
        | none =>
          cases v with
          | none => trivial
          | some x => exact hv
        | some r => cases hR
      | some c0 =>
        rw [hp2] at hR
        cases rid with
        | none => cases hR
        | some r =>
          cases v with
          | none => exact hv
          | some x2 =>
            have hR : (match z_get (z_V st2) r with
              | some c' => z_le c' c0
              | none => false) = true := hR
            split at hR
            · rename_i c2 hc2
              obtain ⟨w, e1, e2⟩ := z_get_ok g1.2.2.2.2.1 hc2
              have hv : env[r]? = some x2 := hv
              rw [z_app hv] at e1
              cases e1
              exact z_le_ok hR e2
            · cases hR
    · split at hN
      · rename_i st3 ns hgn
        obtain ⟨x3, k1, k2, k3, k4⟩ := z_gls_ok hgn g1
        obtain ⟨i, hi⟩ := List.getElem?_of_mem hq
        have hlt : i < P.2.2.2.length := (List.getElem?_eq_some_iff.mp hi).1
        have h1 := List.all_eq_true.mp hN i (List.mem_range.mpr hlt)
        have hni := List.getElem?_eq_getElem (show i < ns.length by omega)
        rw [hi, hni] at h1
        obtain ⟨v1, d, z1, z2, z3⟩ := k4 i q _ hi hni
        obtain ⟨hd1, hd2⟩ := List.getElem?_eq_some_iff.mp z2
        have hd3 : d = q.1.1 := by simpa using hd2.symm
        have hlt2 : q.1.1 < vals.length := by rw [hlen]; simpa using hd1
        have hg2 := List.getElem?_eq_getElem hlt2
        rw [hd3, z_app (hx0 _ _ hg2), ← hg2] at z3
        refine ⟨v1, z3, ?_⟩
        have h1 : (match z_get (z_V st3) ns[i] with
          | some c => z_le c q.2
          | none => false) = true := h1
        split at h1
        · rename_i c0 hc0
          obtain ⟨w, e1, e2⟩ := z_get_ok k1.2.2.2.2.1 hc0
          rw [z1] at e1
          cases e1
          exact z_le_ok h1 e2
        · cases h1
      · cases hN
    · have hlt : i < (g_loc g).length := (List.getElem?_eq_some_iff.mp hi).1
      have h1 := List.all_eq_true.mp hL i (List.mem_range.mpr hlt)
      have hwi := List.getElem?_eq_getElem (show i < ws.length by omega)
      have hfi := List.getElem?_eq_getElem (show i < fs.length by omega)
      rw [hh2, hwi, hfi] at h1
      simp only [Bool.and_eq_true] at h1
      obtain ⟨⟨h2, h3⟩, h4⟩ := h1
      obtain ⟨v0, y1, y2⟩ := hws i q _ hi hwi
      obtain ⟨v1, d, z1, z2, z3⟩ := g4 i q _ hi hfi
      obtain ⟨hd1, hd2⟩ := List.getElem?_eq_some_iff.mp z2
      have hd3 : d = q.1.1 := by simpa using hd2.symm
      have hlt2 : q.1.1 < vals.length := by rw [hlen]; simpa using hd1
      have hg2 := List.getElem?_eq_getElem hlt2
      rw [hd3, hx0 _ _ hg2, ← hg2] at z3
      refine ⟨v0, v1, y2, z3, ?_, fun k hk => ?_, fun k hk => ?_⟩
      · split at h2
        · rename_i c0 hc0
          obtain ⟨w, e1, e2⟩ := z_get_ok g1.2.2.2.2.1 hc0
          rw [z1] at e1
          cases e1
          exact z_le_ok h2 e2
        · cases h2
      · rw [hk] at h3
        obtain ⟨vx, vy, n1, n2, n3⟩ := z_kn_int h3 g1
        rw [z1] at n1
        rw [hget _ _ y1] at n2
        cases n1; cases n2
        exact ⟨vy, vx, rfl, rfl, n3⟩
      · rw [hk] at h4
        simp only [Bool.and_eq_true] at h4
        have h5 : (z_isi st2 ws[i] && z_isi st2 fs[i] && z_kx (z_R st2) ws[i] fs[i] (-k)) = true := by
          simp only [Bool.and_eq_true]
          exact ⟨⟨h4.1.2, h4.1.1⟩, h4.2⟩
        obtain ⟨vx, vy, n1, n2, n3⟩ := z_kn_int h5 g1
        rw [z1] at n2
        rw [hget _ _ y1] at n1
        cases n1; cases n2
        exact ⟨vx, vy, rfl, rfl, by omega⟩
  · cases h
/-- a return with an answer -/
def z_iret (TY : List zTy) (cl : List vw_C) (g : zSig) (ws : List Nat) (ret : Option FieldType) (st : zS) : Bool := match z_S st, ret with
  | [r], some .int => z_isi st r && z_ret TY cl g ws st (some r)
  | [r], some .boolean => (match z_get (z_V st) r with
    | some (.inl a) => z_ile 0 a.1 && z_ile a.2 1
    | _ => false) && z_ret TY cl g ws st (some r)
  | _, _ => false
theorem z_r_vret {good : Nat → zS → Prop} (hg : z_Good p l e R s m vals.toArray below meth c (MQ below (z_Post OB D DA cl TY PHI sz g T0) vals.toArray s (g_mk g).1 (g_mk g).2 (fun q => sz ≤ q)) OB D DA cl TY PHI sz raw pu T0 s.heap env0 nL good) (hx : p.tables.exec = Jvm.exec) (hb : c.code = cc) (hr : meth.sig.returnType = none) (hlocks : meth.locks = false) (hE : z_Ent D cl g raw pu s.heap env0 vals ws) (hd : decode cc pc = .ok (.return_, 1)) (hS : z_S st = []) (h : z_ret TY cl g ws st none = true) : good pc st := by
  refine (hg _ _).mpr fun T H locs env ls stk hs => ?_
  have hk := hs.2.2.2.1
  rw [hS] at hk
  have hk : stk = [] := hk
  subst hk
  obtain ⟨c1, c2, -⟩ := z_ret_ok (v := none) (t := { s with heap := H }) hE h hs trivial rfl
  refine W.widen c1 c2 (W.vret hx hb hr (fun t ht _ => (z_ret_ok (v := none) hE h hs trivial ht).2.2) (fun q hq => ?_) hd hlocks)
  exact hs.2.2.2.2.2.2.2.2.2.2.2.2.2.2.2 q hq
theorem z_r_iret {good : Nat → zS → Prop} {ret : Option FieldType} (hg : z_Good p l e R s m vals.toArray below meth c (MQ below (z_Post OB D DA cl TY PHI sz g T0) vals.toArray s (g_mk g).1 (g_mk g).2 (fun q => sz ≤ q)) OB D DA cl TY PHI sz raw pu T0 s.heap env0 nL good) (hx : p.tables.exec = Jvm.exec) (hb : c.code = cc) (hr : meth.sig.returnType = ret) (hlocks : meth.locks = false) (hE : z_Ent D cl g raw pu s.heap env0 vals ws) (hd : decode cc pc = .ok (.ireturn, 1)) (h : z_iret TY cl g ws ret st = true) : good pc st := by
  refine (hg _ _).mpr fun T H locs env ls stk hs => ?_
  unfold z_iret at h
  split at h
  · rename_i r hS
    rw [Bool.and_eq_true] at h
    obtain ⟨v, k, rfl, e1, hk⟩ := z_stk_cons hS hs.2.2.2.1
    have hk : k = [] := hk
    subst hk
    obtain ⟨x, e2⟩ := z_isi_ok h.1 hs
    rw [e1] at e2
    cases e2
    obtain ⟨c1, c2, -⟩ := z_ret_ok (v := some (.int x)) (t := { s with heap := H }) hE h.2 hs e1 rfl
    refine W.widen c1 c2 (W.iret hx hb hr (fun t ht _ => (z_ret_ok (v := some (.int x)) hE h.2 hs e1 ht).2.2) (fun q hq => ?_) hd hlocks)
    exact hs.2.2.2.2.2.2.2.2.2.2.2.2.2.2.2 q hq
  · rename_i r hS
    rw [Bool.and_eq_true] at h
    obtain ⟨v, k, rfl, e1, hk⟩ := z_stk_cons hS hs.2.2.2.1
    have hk : k = [] := hk
    subst hk
    obtain ⟨h1, h2⟩ := h
    split at h1
    · rename_i a ha
      rw [Bool.and_eq_true] at h1
      obtain ⟨w, e2, hw⟩ := z_get_ok hs.2.2.2.2.1 ha
      rw [e1] at e2
      cases e2
      obtain ⟨hn, -⟩ := z_fit_ok (ty := .boolean) (c := .inl a) (by unfold z_fit; rw [Bool.and_eq_true]; exact h1) hw
      obtain ⟨x, rfl, -⟩ := hw
      obtain ⟨c1, c2, -⟩ := z_ret_ok (v := some (.int x)) (t := { s with heap := H }) hE h2 hs e1 rfl
      refine W.widen c1 c2 (W.zret hx hb hr hn (fun t ht _ => (z_ret_ok (v := some (.int x)) hE h2 hs e1 ht).2.2) (fun q hq => ?_) hd hlocks)
      exact hs.2.2.2.2.2.2.2.2.2.2.2.2.2.2.2 q hq
    · cases h1
  · cases h
end ZRETURN
end
section
/-! Calls. -/
def z_popn (n : Nat) (S : List Nat) : Option (List Nat × List Nat) := cond (Nat.ble n S.length) (some ((S.take n).reverse, S.drop n)) none
def z_csum (st : zS) : List Nat → Option Nat
  | [] => some 0
  | d :: S => match z_csum st S with
    | some n => cond (z_isi st d || z_isr st d) (some (n + 1)) (match z_get (z_V st) d with
      | some (.inr (.inr 0)) => some (n + 2)
      | _ => none)
    | none => none
/-- the arguments are such as are asked for -/
def z_pck (FT : Nat → Nat → FieldType) (cl : List vw_C) (g : zSig) (As gs : List Nat) (st : zS) : Bool :=
  (List.range (g_prm g).length).all (fun j => match (g_prm g)[j]?, As[j]? with
    | some c, some a => (match g_raw g with
        | some _ => Nat.beq j 0
        | none => false) || (match z_get (z_V st) a with
        | some c' => z_le c' c
        | none => false)
    | _, _ => false) &&
  (match g_raw g with
    | none => true
    | some ci => (match As[0]?, cl[ci]? with
      | some a, some r => (z_X st).any (fun p => Nat.beq p.1 a && Nat.beq p.2 ci) && (List.range r.2.2).all (fun k => !(z_zf (FT ci k)) || (match z_ffind st a ci k with
        | some w => (match z_get (z_V st) w with
          | some (.inl z) => z_ile 0 z.1 && z_ile z.2 0
          | _ => false)
        | none => false))
      | _, _ => false)) &&
  (List.range (g_loc g).length).all (fun i => match (g_loc g)[i]?, gs[i]? with
    | some q, some w => (match z_get (z_V st) w with
      | some c => z_le c q.2
      | none => false)
    | _, _ => false)
/-- what is known of a final field of a typed object -/
def z_fnl (TY : List zTy) (cl : List vw_C) (st : zS) (f : Nat × Nat × Nat × Nat) : Bool := match z_get (z_V st) f.1 with
  | some (.inr (.inl t)) => (match TY[t]?, cl[f.2.1]? with
    | some (.inl o), some r => Nat.beq o.1 f.2.1 && (r.2.1 f.2.2.1).2.2.2
    | _, _ => false)
  | _ => false
/-- behind the call, whatever the end -/
def z_bas (TY : List zTy) (cl : List vw_C) (PHI : List (List Nat)) (g : zSig) (As : List Nat) (st : zS) : zS :=
  (z_L st, z_S st, z_n st, cond (Nat.beq (g_ph g) 0) (z_V st) ((z_V st).map (fun q => (q.1, z_mp PHI (g_ph g) q.2))),
    cond (g_pur g) (z_F st) ((z_F st).filter (fun q => z_fnl TY cl st q || (z_isx st q.1 && (match g_raw g, As[0]? with
      | some _, some a => !(Nat.beq q.1 a)
      | _, _ => true)))), cond (g_pur g) (z_E st) [], z_R st, (match g_raw g, As[0]? with
      | some _, some a => (z_X st).filter (fun p => !(Nat.beq p.1 a))
      | _, _ => z_X st), ((z_C st).1 + (g_mk g).1, (z_C st).2 + (g_mk g).2), cond (Nat.beq (g_ph g) 0) (z_ph st) (cond (Nat.beq (z_ph st) 0) (g_ph g) (g_ph g * 1000 + z_ph st)))
/-- what an end says of the arguments: nothing comes where it can't be -/
def z_rfA (As : List Nat) : List (Nat × zV) → zS → Option (List zS)
  | [], st => some [st]
  | q :: r, st => match As[q.1]? with
    | some a => (match z_get (z_V st) a, q.2 with
      | some (.inl x), .inl y => cond (z_ile (z_max x.1 y.1) (z_min x.2 y.2)) (z_rfA As r (z_mor st (z_S st) [(a, .inl (z_max x.1 y.1, z_min x.2 y.2))] [])) (some [])
      | _, c => z_rfA As r (z_mor st (z_S st) [(a, c)] []))
    | none => none
def z_rel2 (w g : Nat) (h : zV × Option Int × Option Int) : List (Nat × Nat × Int) :=
  (match h.2.1 with
    | some k => [(w, g, k)]
    | none => []) ++ (match h.2.2 with
    | some k => [(g, w, -k)]
    | none => [])
/-- what is known of a place's new value: by itself, and by the old one -/
def z_rfV (st : zS) (gi : Nat) (h : zV × Option Int × Option Int) : zV := match h.1, z_get (z_V st) gi with
  | .inl r, some (.inl a) => .inl (match h.2.1 with
    | some k => z_max r.1 (a.1 + k)
    | none => r.1, match h.2.2 with
    | some k => z_min r.2 (a.2 + k)
    | none => r.2)
  | c, _ => c
def z_emp (c : zV) : Bool := match c with
  | .inl r => !(z_ile r.1 r.2)
  | _ => false
/-- what an end says of the places -/
def z_rfL (TY : List zTy) (As : List Nat) : List ((zLoc × zV) × Nat × (zV × Option Int × Option Int)) → zS → Option (List zS)
  | [], st => some [st]
  | q :: r, st => cond (z_emp (z_rfV st q.2.1 q.2.2)) (some []) (match As[q.1.1.1]? with
    | some a => (match q.1.1.2.2.2 with
      | none => z_rfL TY As r (z_L st, z_S st, z_n st + 1, (z_n st, z_rfV st q.2.1 q.2.2) :: z_V st, (a, q.1.1.2.1, q.1.1.2.2.1, z_n st) :: z_F st, z_E st, z_rel2 (z_n st) q.2.1 q.2.2 ++ z_R st, z_X st, z_C st, z_ph st)
      | some c => (match z_ffind st a q.1.1.2.1 q.1.1.2.2.1 with
        | some w => cond (Nat.ble c 1000000) (z_rfL TY As r (z_L st, z_S st, z_n st + 2, (z_n st + 1, z_rfV st q.2.1 q.2.2) :: (z_n st, .inl ((c : Int), (c : Int))) :: z_V st, z_F st, (w, z_n st, z_n st + 1) :: z_E st, z_rel2 (z_n st + 1) q.2.1 q.2.2 ++ z_R st, z_X st, z_C st, z_ph st)) none
        | none => (match z_get (z_V st) a with
        | some (.inr (.inl t)) => (match TY[t]? with
          | some (.inl o) => (match o.2[q.1.1.2.2.1]? with
            | some cf => cond (Nat.beq o.1 q.1.1.2.1 && Nat.ble c 1000000) (z_rfL TY As r (z_L st, z_S st, z_n st + 3, (z_n st + 2, z_rfV st q.2.1 q.2.2) :: (z_n st + 1, .inl ((c : Int), (c : Int))) :: (z_n st, cf) :: z_V st, (a, q.1.1.2.1, q.1.1.2.2.1, z_n st) :: z_F st, (z_n st, z_n st + 1, z_n st + 2) :: z_E st, z_rel2 (z_n st + 2) q.2.1 q.2.2 ++ z_R st, z_X st, z_C st, z_ph st)) none
            | none => none)
          | _ => none)
        | _ => none)))
    | none => none)
def z_cas (TY : List zTy) (cl : List vw_C) (PHI : List (List Nat)) (g : zSig) (As gs : List Nat) (st : zS) (P : zP) : Option (List zS) := match z_rfA As P.1 (z_bas TY cl PHI g As st) with
  | some [st1] => (match z_rfL TY As ((g_loc g).zip (gs.zip P.2.2.1)) st1 with
    | some [st2] => (match z_rfL TY As (P.2.2.2.map (fun q => (q, (As[q.1.1]?).getD 0, q.2, none, none))) st2 with
      | some [st3] => (match P.2.1 with
        | none => some [st3]
        | some c => some [z_psh st3 (z_S st3) c []])
      | some _ => some []
      | none => none)
    | some _ => some []
    | none => none)
  | some _ => some []
  | none => none
def z_cal (TY : List zTy) (PHI : List (List Nat)) (cl : List vw_C) (FT : Nat → Nat → FieldType) (R : Room) (pu : Bool) (maxL : Nat) (g : zSig) (st : zS) : Option (List zS) := match z_popn (g_prm g).length (z_S st) with
  | some (As, rest) => (match z_gls TY cl As (g_loc g) (z_stS st rest) with
    | some (st1, gs) => (match z_csum st1 rest with
      | some n => cond (Nat.ble n 8 && z_pck FT cl g As gs st1 && Nat.ble ((z_C st1).1 + (g_mk g).1) R.cells && Nat.ble ((z_C st1).2 + (g_mk g).2) R.slots && Nat.ble ((g_rm g).1 + 1) R.frames && Nat.ble (8 + (maxL + 11) + (g_rm g).2) R.locals && (Nat.beq (g_ph g) 0 || (Nat.beq (z_ph st1) 0 || (Nat.blt (z_ph st1) 1000 && Nat.blt (g_ph g) 1000))) && (g_pur g || !pu))
          ((g_pst g).foldr (fun P acc => match z_cas TY cl PHI g As gs st1 P, acc with
            | some a, some b => some (a ++ b)
            | _, _ => none) (some [])) none
      | none => none)
    | none => none)
  | none => none
section ZCALLS
variable {p : Program} {l : Launch} {e : Env} {R : Room} {s : State} {m : MethodId} {args : Array Value} {below : List Frame} {meth : Method} {c : Code} {Q : State → Prop} {cc : ByteArray} {pc : Nat}
variable {OB : Nat → Nat} {D : va_G} {DA : Nat → ClassId} {cl : List vw_C} {FT : Nat → Nat → FieldType} {TY : List zTy} {PHI : List (List Nat)} {sz : Nat} {raw : Option Nat} {pu : Bool} {T0 : zTp} {H0 : Heap} {env0 : List Value} {nL : Nat} {st st' : zS} {T : zTp} {H : Heap} {locs : List Loc} {env : List Value} {ls : Array Slot} {stk : List Value} {g : zSig} {KX : State → Heap → Prop} {rest : List Value} {cells slots mc ms : Nat} {good : Nat → zS → Prop}
theorem z_after {vals : List Value} {st0 : List Value} (hr : va_Run p l e R s m args below meth c H locs cells slots mc ms (F0 m pc ls st0) rest (z_Post OB D DA cl TY PHI sz g T vals.toArray) (fun q => sz ≤ q)) (hS : va_S (fun q => sz ≤ q) H0 H locs)
    (kk : ∀ (v : Option Value) (s1 t : State) (H1 : Heap) (locs1 : List Loc), s1.heap = H → t.heap = H1 → z_Post OB D DA cl TY PHI sz g T vals.toArray s1 (.returned v) t → va_S (fun q => sz ≤ q) H0 H1 locs1 → W p l e R s m args below meth c H1 locs1 (cells + mc) (slots + ms) Q (F0 m (pc + 3) ls (v.toList ++ rest))) : W p l e R s m args below meth c H locs cells slots Q (F0 m pc ls st0) := by
  intro T1 hT X
  obtain ⟨v, st₀, t, T', L, h0, X', hL, e1, e2, hq, st⟩ := hr T1 hT X
  have hq2 := hq
  obtain ⟨vals2, v2, T2, q1, q2, q3, q4, q5, q6, q7, q8, q9⟩ := hq
  obtain ⟨t2, a1, b1⟩ := kk v st₀ t T'.heap (locs ++ L) h0 e1.symm hq2 ⟨Nat.le_trans hS.1 (by rw [e1, ← h0]; exact q7), fun q h1 h2 => by
      rw [e1, q8 q (by rw [h0]; exact Nat.lt_of_lt_of_le h1 hS.1) h2, h0]; exact hS.2.1 q h1 h2, fun q hq => by
      rcases List.mem_append.mp hq with h | h
      · exact hS.2.2 q h
      · exact hL q h⟩ T' rfl X'
  exact ⟨t2, st t2 a1, b1⟩
theorem z_mp0 {k : zV} : z_mp PHI 0 k = k := by
  match k with
  | .inl r => rfl
  | .inr (.inl t) => rfl
  | .inr (.inr k) => rfl
theorem z_popn_ok : ∀ (n : Nat) {S As rest : List Nat} {stk : List Value}, z_popn n S = some (As, rest) → z_stk env S stk → ∃ (va vr : List Value), stk = va.reverse ++ vr ∧ va.length = n ∧ As.length = n ∧ z_stk env rest vr ∧ ∀ (j : Nat) (a : Nat), As[j]? = some a → ∃ v, va[j]? = some v ∧ env[a]? = some v := by
  intro n S As rest stk h hs
  obtain ⟨h1, h2⟩ := z_cond h
  cases h2
  have h1 := Nat.le_of_ble_eq_true h1
  have key : ∀ (n : Nat) (S : List Nat) (stk : List Value), n ≤ S.length → z_stk env S stk → ∃ (a b : List Value), stk = a ++ b ∧ a.length = n ∧ z_stk env (S.drop n) b ∧ ∀ (j d : Nat), (S.take n)[j]? = some d → ∃ v, a[j]? = some v ∧ env[d]? = some v := by
    intro n
    induction n with
    | zero => intro S stk _ h; exact ⟨[], stk, rfl, rfl, h, fun j d hj => by simp at hj⟩
    | succ n ih =>
      intro S stk hn h
      cases S with
      | nil => simp at hn
      | cons x S =>
        obtain ⟨v, k, rfl, e1, hk⟩ := h
        obtain ⟨a, b, rfl, g2, g3, g4⟩ := ih S k (by simpa using hn) hk
        refine ⟨v :: a, b, rfl, by simp [g2], g3, fun j d hj => ?_⟩
        cases j with
        | zero =>
          have : x = d := by simpa using hj
          subst this
          exact ⟨v, rfl, e1⟩
        | succ j =>
          obtain ⟨w, e2, e3⟩ := g4 j d (by simpa using hj)
          exact ⟨w, by simpa using e2, e3⟩
  obtain ⟨a, b, g1, g2, g3, g4⟩ := key n S stk h1 hs
  refine ⟨a.reverse, b, by rw [List.reverse_reverse]; exact g1, by simp [g2], by simp [Nat.min_eq_left h1], g3, fun j d hj => ?_⟩
  have hlt : j < n := by
    have := (List.getElem?_eq_some_iff.mp hj).1
    simp at this; omega
  have hlen : (S.take n).length = n := by simp [Nat.min_eq_left h1]
  rw [List.getElem?_reverse (by omega)] at hj
  obtain ⟨v, e1, e2⟩ := g4 _ d hj
  refine ⟨v, ?_, e2⟩
  rw [List.getElem?_reverse (by omega)]
  rw [hlen] at e1
  rw [g2]
  exact e1
theorem z_csum_ok : ∀ {S : List Nat} {n : Nat} {k : List Value}, z_csum st S = some n → z_sat OB D DA cl TY PHI sz raw pu T0 H0 env0 nL st T H locs env ls stk → z_stk env S k → (k.map fun v => v.category).sum = n
  | [], n, k, h, _, hk => by
    have hk : k = [] := hk
    subst hk
    cases h
    rfl
  | d :: S, n, k, h, hs, hk => by
    obtain ⟨v, k2, rfl, e1, hk2⟩ := hk
    unfold z_csum at h
    cases h1 : z_csum st S with
    | none => rw [h1] at h; cases h
    | some n1 =>
      rw [h1] at h
      have ih := z_csum_ok h1 hs hk2
      have h : cond (z_isi st d || z_isr st d) (some (n1 + 1)) (match z_get (z_V st) d with
        | some (.inr (.inr 0)) => some (n1 + 2)
        | _ => none) = some n := h
      cases hc : (z_isi st d || z_isr st d) with
      | true =>
        rw [hc] at h
        cases h
        have := z_cat_ok hc hs e1
        simp [this, ih, Nat.add_comm]
      | false =>
        rw [hc] at h
        have h : (match z_get (z_V st) d with
          | some (.inr (.inr 0)) => some (n1 + 2)
          | _ => none) = some n := h
        split at h
        · rename_i hv
          cases h
          obtain ⟨w, e2, x, rfl⟩ := z_get_ok hs.2.2.2.2.1 hv
          rw [e1] at e2
          cases e2
          have : (Value.long x).category = 2 := rfl
          simp [this, ih, Nat.add_comm]
        · cases h
end ZCALLS
end
section
/-! System.arraycopy of ints, from place 0 to place 0. -/
theorem z_nfw : nativeFrameWords "java/lang/System" "arraycopy" 5 + 11 ≤ 60 := by decide +kernel
/-- all entries are ints -/
def z_alli (q : Nat × (Nat × Nat) × List ((Nat × Nat) × zV)) : Bool := Nat.beq q.1 0 && q.2.2.any (fun g => Nat.ble g.1.1 0 && Nat.ble q.2.1.2 (g.1.2 + 1) && (match g.2 with
  | .inl _ => true
  | _ => false))
def z_acp (TY : List zTy) (RO : List Nat) (R : Room) (st : zS) : Option zS := match z_S st with
  | n :: dp :: d :: sp :: a :: S => (match z_csum st S, z_get (z_V st) n, z_get (z_V st) dp, z_get (z_V st) sp, z_get (z_V st) d, z_get (z_V st) a with
    | some k, some (.inl rn), some (.inl rd), some (.inl rs), some (.inr (.inl td)), some (.inr (.inl ta)) => (match TY[td]?, TY[ta]? with
      | some (.inr qd), some (.inr qa) => cond (z_ile 0 rd.1 && z_ile rd.2 0 && z_ile 0 rs.1 && z_ile rs.2 0 && z_ile 0 rn.1 && z_ile rn.2 (qd.2.1.1 : Int) && z_ile rn.2 (qa.2.1.1 : Int) && z_alli qd && z_alli qa && (!(RO.any (fun x => Nat.beq x td)) && !(zj_prot TY td)) &&
          qd.2.2.all (fun g => qa.2.2.any (fun f => Nat.ble f.1.1 g.1.1 && Nat.ble g.1.2 f.1.2 && z_le f.2 g.2)) && Nat.ble 1 R.frames && Nat.ble (k + 60) R.locals)
          (some (z_wr st S ((z_F st).filter (fun f => z_apt st f.1 d)) ((z_E st).filter (fun f => z_apt st f.1 d)))) none
      | _, _ => none)
    | _, _, _, _, _, _ => none)
  | _ => none
theorem z_arrC {c : ClassId} {n : Nat} {f g : Nat → Value} (h : ∀ j, j < n → f j = g j) : arrV c n f = arrV c n g := by
  have : (Array.ofFn (n := n) fun j => f j.val) = Array.ofFn (n := n) fun j => g j.val := by
    congr 1
    funext j
    exact h j.val j.isLt
  unfold arrV
  rw [this]
def z_int (v : Value) : Int32 := match v with
  | .int x => x
  | _ => 0
theorem z_alli_ok {OB : Nat → Nat} {T : zTp} {q : Nat × (Nat × Nat) × List ((Nat × Nat) × zV)} (h : z_alli q = true) {n : Nat} {f : Nat → Value} (hn : n ≤ q.2.1.2) (hf : ∀ g ∈ q.2.2, ∀ j, j < n → g.1.1 ≤ j → j ≤ g.1.2 → z_v OB T g.2 (f j)) : q.1 = 0 ∧ ∀ j, j < n → f j = .int (z_int (f j)) := by
  unfold z_alli at h
  rw [Bool.and_eq_true] at h
  refine ⟨z_beq h.1, fun j hj => ?_⟩
  obtain ⟨g, hg, h2⟩ := List.any_eq_true.mp h.2
  simp only [Bool.and_eq_true] at h2
  obtain ⟨⟨h3, h4⟩, h5⟩ := h2
  have h3 := Nat.le_of_ble_eq_true h3
  have h4 := Nat.le_of_ble_eq_true h4
  have hv := hf g hg j hj (by omega) (by omega)
  obtain ⟨gr, gv⟩ := g
  cases gv with
  | inl r => obtain ⟨x, e, _⟩ := hv; rw [e]; rfl
  | inr u => cases h5
section ZCOPY
variable {p : Program} {l : Launch} {e : Env} {R : Room} {s : State} {m : MethodId} {args : Array Value} {below : List Frame} {meth : Method} {c : Code} {Q : State → Prop} {cc : ByteArray} {pc : Nat}
variable {OB : Nat → Nat} {D : va_G} {DA : Nat → ClassId} {cl : List vw_C} {TY : List zTy} {PHI : List (List Nat)} {sz : Nat} {raw : Option Nat} {pu : Bool} {T0 : zTp} {H0 : Heap} {env0 : List Value} {nL : Nat} {st st' : zS} {good : Nat → zS → Prop}
variable {Ts : List Cond} {own : String} {tys : List (ClassId × FieldType)} {RO : List Nat}
variable {T : zTp} {H : Heap} {locs : List Loc} {env : List Value} {ls : Array Slot} {stk : List Value} {cells slots : Nat} {rest : List Value}
/-- the row: the other cells stay -/
theorem z_cprow (hx : p.tables.exec = Jvm.exec) (hb : c.code = cc) (hml : c.maxLocals = ls.size) (hD : z_Dy s m args Ts own D cl DA (z_tys DA)) {i : Nat} (w1 : Cond.methodLink own i arraycopyName ∈ Ts) (w2 : Cond.native arraycopyName ∈ Ts) (w3 : Cond.static arraycopyName ∈ Ts) (w4 : Cond.initialized "java/lang/System" ∈ Ts)
    {a0 a n0 n1 : Nat} {f g : Nat → Int32} (hc0 : H[a0]? = some (arrV (DA 0) n0 (fun j => .int (f j)))) (hc1 : H[a]? = some (arrV (DA 0) n1 (fun j => .int (g j)))) {sp dp n : Int32} (h1 : sp.toInt = 0) (h2 : dp.toInt = 0) (h3 : 0 ≤ n.toInt) (h4 : n.toInt.toNat ≤ n0) (h5 : n.toInt.toNat ≤ n1)
    (hframes : 1 ≤ R.frames) (hlocals : (rest.map fun v => v.category).sum + 60 ≤ R.locals) (hd : decode cc pc = .ok (.invokestatic i, 3))
    (kk : ∀ (H1 : Heap) (L : List Loc), (∀ q ∈ L, q.base = a) → H1[a]? = some (arrV (DA 0) n1 (fun j => .int (va_cpy f g 0 0 n.toInt.toNat j))) → H1.size = H.size → (∀ b : Nat, b ≠ a → H1[b]? = H[b]?) → W p l e R s m args below meth c H1 (locs ++ L) cells slots Q (F0 m (pc + 3) ls rest)) : W p l e R s m args below meth c H locs cells slots Q (F0 m pc ls (.int n :: .int dp :: .ref a :: .int sp :: .ref a0 :: rest)) := by
  intro T1 hT X
  obtain ⟨hts, hown, hK, hty⟩ := hD
  have hA := hK.2 0 _ (hty 0 (by omega))
  obtain ⟨-, k0, hk0, cm0, hkk0⟩ := hA.1 n0 (fun j => .int (f j))
  obtain ⟨-, k1, hk1, cm1, hkk1⟩ := hA.1 n1 (fun j => .int (g j))
  have z0 : (0 : Int32).toInt = 0 := rfl
  have neg : ∀ z : Int32, 0 ≤ z.toInt → ¬ z < 0 := fun z hz h => by have := Int32.lt_iff_toInt_lt.mp h; omega
  obtain ⟨vm', X', step⟩ := X.arraycopy hx hown (hts _ w1) (hts _ w2) (hts _ w3) (hts _ w4) (src := a0) (dst := a) (cs := arrV (DA 0) n0 (fun j => .int (f j))) (cd := arrV (DA 0) n1 (fun j => .int (g j))) (srcPos := sp) (destPos := dp) (n := n) (by rw [hT]; exact hc0) (by rw [hT]; exact hc1)
    (fun _ h => by cases h) (fun _ h => by cases h) (fun h => by cases h) (fun h => by cases h) hk0 hk1 hkk0 hkk1 rfl (neg _ (by omega)) (neg _ (by omega)) (neg _ h3)
    (by rw [arrV_size]; omega) (by rw [arrV_size]; omega)
    (fun vm₁ _ j hj => by
      have hj2 : j < n.toInt.toNat := hj
      have e : (arrV (DA 0) n0 (fun j => .int (f j))).slots.getD (sp.toNatClampNeg + j) .null = .int (f (sp.toNatClampNeg + j)) := by
        rw [Array.getD_eq_getD_getElem?, arrV_read _ _ (by rw [z_clamp]; omega)]
        rfl
      rw [e]
      exact ⟨rfl, trivial⟩)
    (g := F0 m pc ls (.int n :: .int dp :: .ref a :: .int sp :: .ref a0 :: rest)) rfl (by rw [hml]) (rest := rest) rfl (by rw [hb]; exact hd) hframes (by show 2 * 0 + _ + _ ≤ _; have := z_nfw; omega)
  have e1 : copied (arrV (DA 0) n0 (fun j => .int (f j))) (arrV (DA 0) n1 (fun j => .int (g j))) sp dp n = arrV (DA 0) n1 (fun j => .int (va_cpy f g 0 0 n.toInt.toNat j)) := by
    have := va_copied (n1 := n1) (sp := sp.toNatClampNeg) (dp := dp.toNatClampNeg) (n := n.toNatClampNeg) (fun z => Value.int z) (DA 0) (DA 0) f g (n0 := n0) (by rw [z_clamp, z_clamp]; omega)
    have es : sp.toNatClampNeg = 0 := by rw [z_clamp, h1]; rfl
    have ed : dp.toNatClampNeg = 0 := by rw [z_clamp, h2]; rfl
    rw [es, ed] at this
    show (arrV (DA 0) n1 (fun j => .int (g j))).storeRun dp.toNatClampNeg ((arrV (DA 0) n0 (fun j => .int (f j))).stretch sp.toNatClampNeg n.toNatClampNeg) = _
    rw [es, ed]
    exact this
  rw [e1] at X' step
  have hl : a < H.size := (Array.getElem?_eq_some_iff.mp hc1).1
  obtain ⟨t, q1, q2⟩ := kk (H.setIfInBounds a (arrV (DA 0) n1 (fun j => .int (va_cpy f g 0 0 n.toInt.toNat j)))) _ (fun q hq => by obtain ⟨z, -, hz⟩ := List.mem_map.mp hq; rw [← hz]) (by simp [Array.getElem?_setIfInBounds, hl]) (by simp) (fun b hb2 => by simp [Array.getElem?_setIfInBounds, Ne.symm hb2]) _ (by rw [← hT]; rfl) X'
  exact ⟨t, step t q1, q2⟩
theorem z_S_app {A : Nat → Prop} {H1 : Heap} {L : List Loc} {a : Nat} (h : va_S A H0 H locs) (hz : H1.size = H.size) (oq : ∀ b : Nat, b ≠ a → H1[b]? = H[b]?) (ha : A a) (hL : ∀ q ∈ L, q.base = a) : va_S A H0 H1 (locs ++ L) := by
  have h2 := h.put (k := 0) hz oq ha
  refine ⟨h2.1, h2.2.1, fun q hq => ?_⟩
  rcases List.mem_append.mp hq with hq | hq
  · exact h.2.2 q hq
  · rw [hL q hq]; exact ha
theorem z_acp_ok (hpu : pu = false) (h : z_acp TY RO R st = some st') (hs : z_sat OB D DA cl TY PHI sz raw pu T0 H0 env0 nL st T H locs env ls stk) :
    ∃ (a0 a n0 n1 : Nat) (f g : Nat → Int32) (sp dp n : Int32) (k : List Value), stk = .int n :: .int dp :: .ref a :: .int sp :: .ref a0 :: k ∧ H[a0]? = some (arrV (DA 0) n0 (fun j => .int (f j))) ∧ H[a]? = some (arrV (DA 0) n1 (fun j => .int (g j))) ∧ sp.toInt = 0 ∧ dp.toInt = 0 ∧ 0 ≤ n.toInt ∧ n.toInt.toNat ≤ n0 ∧ n.toInt.toNat ≤ n1 ∧
      1 ≤ R.frames ∧ (k.map fun v => v.category).sum + 60 ≤ R.locals ∧ z_C st' = z_C st ∧
      ∀ (H1 : Heap) (L : List Loc), (∀ q ∈ L, q.base = a) → H1[a]? = some (arrV (DA 0) n1 (fun j => .int (va_cpy f g 0 0 n.toInt.toNat j))) → H1.size = H.size → (∀ b : Nat, b ≠ a → H1[b]? = H[b]?) → z_sat OB D DA cl TY PHI sz raw pu T0 H0 env0 nL st' T H1 (locs ++ L) env ls k := by
  unfold z_acp at h
  split at h
  · rename_i n dp d sp a S hS
    split at h
    · rename_i k rn rd rs td ta hk0 hn hdp hsp hd ha
      split at h
      · rename_i qd qa hqd hqa
        obtain ⟨hc, rfl⟩ := z_cond h
        simp only [Bool.and_eq_true] at hc
        obtain ⟨⟨⟨⟨⟨⟨⟨⟨⟨⟨⟨⟨c1, c2⟩, c3⟩, c4⟩, c5⟩, c6⟩, c7⟩, c8⟩, c9⟩, c10⟩, c11⟩, c12⟩, c13⟩ := hc
        obtain ⟨ek, ⟨lo, hi⟩, sg⟩ := qd
        obtain ⟨ek0, ⟨lo0, hi0⟩, sg0⟩ := qa
        obtain ⟨vn, k1, rfl, e1, hk1⟩ := z_stk_cons hS hs.2.2.2.1
        obtain ⟨vdp, k2, rfl, e2, hk2⟩ := hk1
        obtain ⟨vd, k3, rfl, e3, hk3⟩ := hk2
        obtain ⟨vsp, k4, rfl, e4, hk4⟩ := hk3
        obtain ⟨va, k5, rfl, e5, hk5⟩ := hk4
        obtain ⟨_, i1, xn, rfl, hxn⟩ := z_get_ok hs.2.2.2.2.1 hn
        obtain ⟨_, i2, xdp, rfl, hxdp⟩ := z_get_ok hs.2.2.2.2.1 hdp
        obtain ⟨_, i3, xsp, rfl, hxsp⟩ := z_get_ok hs.2.2.2.2.1 hsp
        obtain ⟨A1, n1, f1, g1, g2, g3, g4, g5, g6, g7⟩ := z_arr hs hd hqd
        obtain ⟨A0, n0, f0, j1, j2, j3, j4, j5, j6, j7⟩ := z_arr hs ha hqa
        have q1 : vn = .int xn := Option.some.inj (e1.symm.trans i1)
        have q2 : vdp = .int xdp := Option.some.inj (e2.symm.trans i2)
        have q3 : vd = .ref A1 := Option.some.inj (e3.symm.trans g1)
        have q4 : vsp = .int xsp := Option.some.inj (e4.symm.trans i3)
        have q5 : va = .ref A0 := Option.some.inj (e5.symm.trans j1)
        subst q1; subst q2; subst q3; subst q4; subst q5
        obtain ⟨he, hall⟩ := z_alli_ok c8 g5 g7
        obtain ⟨he0, hall0⟩ := z_alli_ok c9 j5 j7
        have he : ek = 0 := he
        have he0 : ek0 = 0 := he0
        subst he; subst he0
        have t1 : H[A1]? = some (arrV (DA 0) n1 (fun j => .int (z_int (f1 j)))) := by rw [g3, z_arrC hall]
        have t0 : H[A0]? = some (arrV (DA 0) n0 (fun j => .int (z_int (f0 j)))) := by rw [j3, z_arrC hall0]
        have c1 := z_ile_ok c1
        have c2 := z_ile_ok c2
        have c3 := z_ile_ok c3
        have c4 := z_ile_ok c4
        have c5 := z_ile_ok c5
        have c6 : rn.2 ≤ (lo : Int) := z_ile_ok c6
        have c7 : rn.2 ≤ (lo0 : Int) := z_ile_ok c7
        obtain ⟨x1, x2⟩ := hxn
        obtain ⟨x3, x4⟩ := hxdp
        obtain ⟨x5, x6⟩ := hxsp
        have hcat := z_csum_ok hk0 hs hk5
        have hle := Nat.le_of_ble_eq_true c13
        refine ⟨A0, A1, n0, n1, _, _, xsp, xdp, xn, k5, rfl, t0, t1, by omega, by omega, by omega, by omega, by omega, Nat.le_of_ble_eq_true c12, by rw [hcat]; exact hle, rfl, fun H1 L hL h1 h2 h3 => ?_⟩
        have hcell : z_cell OB D DA cl T H1 A1 (.inr (0, (lo, hi), sg)) := by
          refine ⟨n1, _, h1, g4, g5, g6, fun g hg i hi1 hi2 hi3 => ?_⟩
          by_cases hin : i < xn.toInt.toNat
          · obtain ⟨fs, hfs, hfs2⟩ := List.any_eq_true.mp (List.all_eq_true.mp c11 g hg)
            simp only [Bool.and_eq_true] at hfs2
            have b1 := Nat.le_of_ble_eq_true hfs2.1.1
            have b2 := Nat.le_of_ble_eq_true hfs2.1.2
            have hv := j7 fs hfs i (by omega) (by omega) (by omega)
            rw [hall0 i (by omega)] at hv
            show z_v OB T g.2 (.int (va_cpy _ _ 0 0 _ i))
            rw [sb_cpy0 hin]
            exact z_le_ok hfs2.2 hv
          · have hv := g7 g hg i hi1 hi2 hi3
            rw [hall i hi1] at hv
            show z_v OB T g.2 (.int (va_cpy _ _ 0 0 _ i))
            rw [pk_cpy_out (Or.inr (by omega))]
            exact hv
        have hm := z_mem_set (k := 0) hpu hs.2.2.2.2.2.2.2.2.2 g2 hqd hcell h2 h3 (fun _ _ _ _ _ hh => by cases hh) (zJ_set hs.2.2.2.2.2.2.2.2.2.1.2 hs.2.2.2.2.2.2.2.2.2.1.1 g2 (by simpa using c10.2) h3 (fun ci fl hh => by rw [hqd] at hh; cases hh))
        have hx0 : ∀ (cC : ClassId) (N : Nat) (iS : Nat → Nat) (V : Nat → Value), t_OB A1 cC N iS H V → ∃ V', t_OB A1 cC N iS H1 V' := by
          intro cC N iS V hob
          obtain ⟨cell0, u1, u2, u3, u4⟩ := hob
          rw [t1] at u1
          cases u1
          refine ⟨fun k => .int (va_cpy (fun j => z_int (f0 j)) (fun j => z_int (f1 j)) 0 0 xn.toInt.toNat (iS k)), _, h1, u2, rfl, fun k hk => ?_⟩
          have hlt := (Array.getElem?_eq_some_iff.mp (u4 k hk)).1
          rw [arrV_size] at hlt
          exact arrV_read _ _ hlt
        refine ⟨hs.1, hs.2.1, hs.2.2.1, hk5, hs.2.2.2.2.1, fun f1 hf => ?_, fun f1 hf => ?_, hs.2.2.2.2.2.2.2.1, z_fx_upd h3 hx0 hs.2.2.2.2.2.2.2.2.1, hm.1, hm.2.1, hm.2.2.1, hm.2.2.2.1, z_S_app hs.2.2.2.2.2.2.2.2.2.2.2.2.2 h2 h3 (hs.2.2.2.2.2.2.2.2.2.2.1.1 A1 td g2) hL⟩
        · obtain ⟨hf1, hf2⟩ := List.mem_filter.mp hf
          obtain ⟨b, u, r2, y1, y2, y3, y4, y5⟩ := hs.2.2.2.2.2.1 f1 hf1
          exact ⟨b, u, r2, y1, y2, y3, y4, z_sl_kept y5 (h3 b (z_apt_ok hf2 hs y1 g1))⟩
        · obtain ⟨hf1, hf2⟩ := List.mem_filter.mp hf
          obtain ⟨b, x2, u, y1, y2, y3, y4, y5⟩ := hs.2.2.2.2.2.2.1 f1 hf1
          exact ⟨b, x2, u, y1, y2, y3, y4, z_sl_kept y5 (h3 b (z_apt_ok hf2 hs y1 g1))⟩
      · cases h
    · cases h
  · cases h
theorem z_r_acp (hpu : pu = false) (hg : z_Good p l e R s m args below meth c Q OB D DA cl TY PHI sz raw pu T0 H0 env0 nL good) (hx : p.tables.exec = Jvm.exec) (hb : c.code = cc) (hml : c.maxLocals = nL) (hD : z_Dy s m args Ts own D cl DA (z_tys DA)) {i : Nat} (w1 : Cond.methodLink own i arraycopyName ∈ Ts) (w2 : Cond.native arraycopyName ∈ Ts) (w3 : Cond.static arraycopyName ∈ Ts) (w4 : Cond.initialized "java/lang/System" ∈ Ts) (hd : decode cc pc = .ok (.invokestatic i, 3)) (h : z_acp TY RO R st = some st') (k : good (pc + 3) st') : good pc st := by
  refine (hg _ _).mpr fun T H locs env ls stk hs => ?_
  obtain ⟨a0, a, n0, n1, f, g, sp, dp, n, k2, rfl, h1, h2, h3, h4, h5, h6, h7, h8, h9, h10, h11⟩ := z_acp_ok hpu h hs
  have hlsz : ls.size = nL := by obtain ⟨lv, z1, _⟩ := hs.2.2.1; exact z1.1
  refine z_cprow hx hb (by rw [hml, hlsz]) hD w1 w2 w3 w4 h1 h2 h3 h4 h5 h6 h7 h8 h9 hd fun H1 L e1 e2 e3 e4 => ?_
  have kk := (hg _ _).mp k T H1 _ env ls _ (h11 H1 L e1 e2 e3 e4)
  rwa [h10] at kk
end ZCOPY
end
section
/-! Behind a call. -/
section ZCALLS2
variable {p : Program} {l : Launch} {e : Env} {R : Room} {s : State} {m : MethodId} {args : Array Value} {below : List Frame} {meth : Method} {c : Code} {Q : State → Prop} {cc : ByteArray} {pc : Nat}
variable {OB : Nat → Nat} {D : va_G} {DA : Nat → ClassId} {cl : List vw_C} {FT : Nat → Nat → FieldType} {TY : List zTy} {PHI : List (List Nat)} {sz : Nat} {raw : Option Nat} {pu : Bool} {T0 : zTp} {H0 : Heap} {env0 : List Value} {nL : Nat} {st st' : zS} {T : zTp} {H : Heap} {locs : List Loc} {env : List Value} {ls : Array Slot} {stk : List Value} {g : zSig} {KX : State → Heap → Prop} {rest : List Value} {cells slots mc ms : Nat} {good : Nat → zS → Prop}
theorem z_mpT {T' : zTp} (h : ∀ a t, T a = some t → T' a = some (z_phi PHI (g_ph g) t)) {k : zV} {v : Value} (hv : z_v OB T k v) : z_v OB T' (z_mp PHI (g_ph g) k) v := by
  match k, hv with
  | .inl r, hv => exact hv
  | .inr (.inl t), ⟨a, e, ha⟩ => exact ⟨a, e, h a t ha⟩
  | .inr (.inr 0), hv => exact hv
  | .inr (.inr (k + 1)), hv => exact hv
theorem z_fx_call {n0 : Nat} {H1 : Heap} {T' : zTp} {f : Nat × Nat → Bool} : ∀ {X : List (Nat × Nat)}, (∀ p ∈ X, f p = true → ∀ a : Nat, env[p.1]? = some (.ref a) → T a = none → a < H.size → T' a = none ∧ H1[a]? = H[a]?) → z_fx D cl T sz n0 raw H env X → z_fx D cl T' sz n0 raw H1 env (X.filter f)
  | [], _, h => h
  | x :: X, hk, ⟨⟨b, h1, h2, h3, ⟨r, V, h4, h4b⟩, h5⟩, hr⟩ => by
    have ih := z_fx_call (fun p hp => hk p (List.mem_cons_of_mem _ hp)) hr
    unfold List.filter
    cases hx : f x with
    | false => exact ih
    | true =>
      have hlt : b < H.size := by
        obtain ⟨cell, x1, -⟩ := h4b
        exact (Array.getElem?_eq_some_iff.mp x1).1
      obtain ⟨k1, k2⟩ := hk x List.mem_cons_self hx b h1 h2 hlt
      exact ⟨⟨b, h1, k1, h3, ⟨r, V, h4, h4b.kept k2⟩, fun p hp => h5 p (List.mem_filter.mp hp).1⟩, ih⟩
/-- what all ends share -/
theorem z_bas_ok {As : List Nat} {va vr : List Value} {v : Option Value} {s1 t : State} {H1 : Heap} {locs1 : List Loc} (hs : z_sat OB D DA cl TY PHI sz raw pu T0 H0 env0 nL st T H locs env ls vr) (hA : As.length = va.length) (hA2 : ∀ (j a : Nat), As[j]? = some a → ∃ x, va[j]? = some x ∧ env[a]? = some x)
    (hraw : ∀ ci, g_raw g = some ci → ∃ a, As[0]? = some a ∧ z_isx st a = true) (hph : g_ph g = 0 ∨ (z_ph st = 0 ∨ (Nat.blt (z_ph st) 1000 = true ∧ Nat.blt (g_ph g) 1000 = true))) (hpu : g_pur g = true ∨ pu = false) (h0 : s1.heap = H) (ht : t.heap = H1) (hS : va_S (fun q => sz ≤ q) H0 H1 locs1) (hP : z_Post OB D DA cl TY PHI sz g T va.toArray s1 (.returned v) t) :
    ∃ T' P, z_sat OB D DA cl TY PHI sz raw pu T0 H0 env0 nL (z_bas TY cl PHI g As st) T' H1 locs1 env ls vr ∧ P ∈ g_pst g ∧ z_Cs OB D cl g T' va H H1 v P ∧ (∀ a t, T a = some t → T' a = some (z_phi PHI (g_ph g) t)) ∧ (g_pur g = true → H1 = H ∧ T' = T) := by
  obtain ⟨va2, v2, T', q1, q2, q3, q4, q5, q6, q7, q8, ⟨q9, qf⟩, P, q10, q11⟩ := hP
  have hva : va = va2 := by have := congrArg Array.toList q1; simpa using this
  subst hva
  have hvv : v = v2 := Outcome.returned.inj q2
  subst hvv
  rw [h0] at q6 q7 q8 q9 qf q11
  rw [ht] at q3 q6 q7 q8 q9 qf q11
  refine ⟨T', P, ?_, q10, q11, q5, q9⟩
  obtain ⟨m1, ⟨m2, m3, mf⟩, m4, m5, m6⟩ := hs.2.2.2.2.2.2.2.2.2
  -- a raw cell that is not the one handed on
  have keep : ∀ a : Nat, a < H.size → T a = none → (∀ d, g_raw g ≠ none → As[0]? = some d → env[d]? ≠ some (.ref a)) → T' a = none ∧ H1[a]? = H[a]? := by
    intro a ha1 ha2 ha3
    refine q6 a ha1 ha2 (fun hi hv0 => ?_)
    cases hr : g_raw g with
    | none => rw [hr] at hi; cases hi
    | some ci =>
      obtain ⟨d, hd, _⟩ := hraw ci hr
      obtain ⟨x, hx1, hx2⟩ := hA2 0 d hd
      rw [hv0] at hx1
      cases hx1
      exact ha3 d (by rw [hr]; simp) hd hx2
  have hV : z_fv OB T' env (cond (Nat.beq (g_ph g) 0) (z_V st) ((z_V st).map (fun q => (q.1, z_mp PHI (g_ph g) q.2)))) := by
    cases hb : Nat.beq (g_ph g) 0 with
    | true =>
      intro f hf
      obtain ⟨w, e1, e2⟩ := hs.2.2.2.2.1 f hf
      have := z_mpT (g := g) q5 e2
      rw [z_beq hb, z_mp0] at this
      exact ⟨w, e1, this⟩
    | false =>
      intro f hf
      obtain ⟨q, hq, rfl⟩ := List.mem_map.mp hf
      obtain ⟨w, e1, e2⟩ := hs.2.2.2.2.1 q hq
      exact ⟨w, e1, z_mpT q5 e2⟩
  refine ⟨hs.1, hs.2.1, hs.2.2.1, hs.2.2.2.1, hV, ?_, ?_, hs.2.2.2.2.2.2.2.1, ?_, q3, ⟨q4, fun h => ?_, z_fin_tr mf qf⟩, fun a u hu => ?_, fun q hq1 hq2 hq3 => ?_, hS⟩
  · show z_ff D cl H1 env (cond (g_pur g) _ _)
    cases hp : g_pur g with
    | true => rw [(q9 hp).1]; exact hs.2.2.2.2.2.1
    | false =>
      intro f hf
      obtain ⟨hf1, hf2⟩ := List.mem_filter.mp hf
      obtain ⟨a, w, r, e1, e2, e3, e4, e5⟩ := hs.2.2.2.2.2.1 f hf1
      rw [Bool.or_eq_true] at hf2
      rcases hf2 with hf2 | hf2
      · unfold z_fnl at hf2
        split at hf2
        · rename_i t2 ht2
          split at hf2
          · rename_i o r2 ho2 hr2
            rw [Bool.and_eq_true] at hf2
            obtain ⟨v3, u1, a3, rfl, u2⟩ := z_get_ok hs.2.2.2.2.1 ht2
            rw [e1] at u1
            cases u1
            obtain ⟨oc, of⟩ := o
            have hoc : oc = f.2.1 := z_beq hf2.1
            subst hoc
            rw [e3] at hr2
            cases hr2
            obtain ⟨t', fl', k1, k2, k3⟩ := qf a t2 _ of u2 ho2
            exact ⟨a, w, r, e1, e2, e3, e4, k3 r _ w e3 e4 hf2.2 e5⟩
          · cases hf2
        · cases hf2
      rw [Bool.and_eq_true] at hf2
      obtain ⟨b, g1, g2, g3, y, hy, hyd, r2, V2, g4, g5⟩ := z_isx_ok hf2.1 hs
      rw [e1] at g1
      cases g1
      have hlt : a < H.size := by
        obtain ⟨cell, x1, -⟩ := e5
        exact (Array.getElem?_eq_some_iff.mp x1).1
      refine ⟨a, w, r, e1, e2, e3, e4, z_sl_kept e5 (keep a hlt g2 (fun d hd1 hd2 hd3 => ?_)).2⟩
      cases hr : g_raw g with
      | none => exact hd1 hr
      | some ci =>
        have h5 := hf2.2
        rw [hr, hd2] at h5
        have hne : f.1 ≠ d := fun h => by rw [h] at h5; simp at h5
        obtain ⟨d2, hd4, hd5⟩ := hraw ci hr
        rw [hd2] at hd4
        cases hd4
        obtain ⟨_, _, _, _, z, hz, hzd, _⟩ := z_isx_ok hd5 hs
        exact z_fx_apart hs.2.2.2.2.2.2.2.2.1 hy hz (by rw [hyd, hzd]; exact hne) (by rw [hyd]; exact e1) (by rw [hzd]; exact hd3)
  · show z_fe H1 env (cond (g_pur g) _ _)
    cases hp : g_pur g with
    | true => rw [(q9 hp).1]; exact hs.2.2.2.2.2.2.1
    | false => exact fun f hf => absurd hf List.not_mem_nil
  · have hX := hs.2.2.2.2.2.2.2.2.1
    have lt : ∀ q ∈ z_X st, ∀ a : Nat, env[q.1]? = some (.ref a) → T a = none → a < H.size → (∀ d, g_raw g ≠ none → As[0]? = some d → env[d]? ≠ some (.ref a)) → T' a = none ∧ H1[a]? = H[a]? := fun q _ a _ ha2 ha3 ha4 => keep a ha3 ha2 ha4
    show z_fx D cl T' sz H0.size raw H1 env (match g_raw g, As[0]? with
      | some _, some a => (z_X st).filter (fun p => !(Nat.beq p.1 a))
      | _, _ => z_X st)
    cases hr : g_raw g with
    | none =>
      have := z_fx_call (H1 := H1) (T' := T') (f := fun _ => true) (fun q hq _ a ha1 ha2 ha3 => lt q hq a ha1 ha2 ha3 (fun d hd => absurd hr hd)) hX
      rw [List.filter_eq_self.mpr (fun _ _ => rfl)] at this
      exact this
    | some ci =>
      obtain ⟨d, hd, hdx⟩ := hraw ci hr
      rw [hd]
      refine z_fx_call (f := fun p => !(Nat.beq p.1 d)) (fun q hq hf a ha1 ha2 ha3 => lt q hq a ha1 ha2 ha3 (fun d2 _ hd2 hd3 => ?_)) hX
      rw [hd] at hd2
      cases hd2
      have hne : q.1 ≠ d := fun h => by rw [h] at hf; simp at hf
      obtain ⟨_, _, _, _, z, hz, hzd, _⟩ := z_isx_ok hdx hs
      exact z_fx_apart hX hq hz (by rw [hzd]; exact hne) ha1 (by rw [hzd]; exact hd3)
  · rcases hpu with hp | hp
    · obtain ⟨y1, y2⟩ := q9 hp
      obtain ⟨z1, z2⟩ := m3 h
      exact ⟨y1.trans z1, y2.trans z2⟩
    · rw [hp] at h; cases h
  · have h1 := q5 a _ (m4 a u hu)
    show T' a = some (z_phi PHI (cond (Nat.beq (g_ph g) 0) (z_ph st) (cond (Nat.beq (z_ph st) 0) (g_ph g) (g_ph g * 1000 + z_ph st))) u)
    cases hb : Nat.beq (g_ph g) 0 with
    | true => rw [z_beq hb] at h1; exact h1
    | false =>
      cases hb2 : Nat.beq (z_ph st) 0 with
      | true => rw [z_beq hb2] at h1; exact h1
      | false =>
        rcases hph with h | h | h
        · rw [h] at hb; cases hb
        · rw [h] at hb2; cases hb2
        · show T' a = some (z_phi PHI (g_ph g * 1000 + z_ph st) u)
          rw [z_phi_cmp h.1 h.2 (fun h0 => by rw [h0] at hb; cases hb)]
          exact h1
  · obtain ⟨y1, y2⟩ := m5 q hq1 hq2 hq3
    obtain ⟨z1, z2⟩ := keep q (Nat.lt_of_lt_of_le hq1 m6.1) y1 (fun d hd1 hd2 hd3 => by
      cases hr : g_raw g with
      | none => exact hd1 hr
      | some ci =>
        obtain ⟨d2, hd4, hd5⟩ := hraw ci hr
        rw [hd2] at hd4
        cases hd4
        obtain ⟨b, g1, g2, g3, _⟩ := z_isx_ok hd5 hs
        rw [hd3] at g1
        cases g1
        rcases g3.2 with h | h
        · omega
        · exact hq3 h)
    exact ⟨z1, z2.trans y2⟩
theorem z_rfA_ok {As : List Nat} {va : List Value} (hA2 : ∀ (j a : Nat), As[j]? = some a → ∃ x, va[j]? = some x ∧ env[a]? = some x) : ∀ {A : List (Nat × zV)} {st : zS} {L : List zS}, z_rfA As A st = some L → (∀ q ∈ A, ∃ x, va[q.1]? = some x ∧ z_v OB T q.2 x) → z_sat OB D DA cl TY PHI sz raw pu T0 H0 env0 nL st T H locs env ls stk →
    ∃ st', L = [st'] ∧ z_sat OB D DA cl TY PHI sz raw pu T0 H0 env0 nL st' T H locs env ls stk ∧ z_C st' = z_C st ∧ z_S st' = z_S st
  | [], st, L, h, _, hs => by
    cases h
    exact ⟨st, rfl, hs, rfl, rfl⟩
  | q :: r, st, L, h, hq, hs => by
    obtain ⟨x, e1, e2⟩ := hq q List.mem_cons_self
    have hr := fun p hp => hq p (List.mem_cons_of_mem _ hp)
    unfold z_rfA at h
    split at h
    · rename_i a ha
      obtain ⟨x2, e3, e4⟩ := hA2 _ _ ha
      rw [e1] at e3
      cases e3
      split at h
      · rename_i r1 r2 hv hc
        rw [hc] at e2
        obtain ⟨y, rfl, hy⟩ := e2
        obtain ⟨w, e5, y2, rfl, hy2⟩ := z_get_ok hs.2.2.2.2.1 hv
        rw [e4] at e5
        cases e5
        have hin : z_in (z_max r1.1 r2.1, z_min r1.2 r2.2) y := ⟨z_max_le hy2.1 hy.1, z_min_ge hy2.2 hy.2⟩
        have hb : z_ile (z_max r1.1 r2.1) (z_min r1.2 r2.2) = true := decide_eq_true (Int.le_trans hin.1 hin.2)
        rw [hb] at h
        obtain ⟨st', g1, g2, g3, g4⟩ := z_rfA_ok hA2 h hr (z_sat_mor hs hs.2.2.2.1 (fun f hf => by rw [List.mem_singleton.mp hf]; exact ⟨_, e4, z_vi hin⟩) (fun f hf => absurd hf List.not_mem_nil))
        exact ⟨st', g1, g2, g3, g4⟩
      · obtain ⟨st', g1, g2, g3, g4⟩ := z_rfA_ok hA2 h hr (z_sat_mor hs hs.2.2.2.1 (fun f hf => by rw [List.mem_singleton.mp hf]; exact ⟨_, e4, e2⟩) (fun f hf => absurd hf List.not_mem_nil))
        exact ⟨st', g1, g2, g3, g4⟩
    · cases h
end ZCALLS2
end
section
/-! A call, whole. -/
/-- words that go on holding -/
def z_gw : Cond → Bool
  | .methodLinkNest .. => true
  | w => goodWord w
theorem z_pay {big ws : List Cond} {args : Array Value} {s : State} (hts : ∀ w ∈ big, w.before args s = true) (h : ∀ w ∈ ws, w ∈ big ∧ z_gw w = true) : ∀ w ∈ ws, ∀ (a' : Array Value) (U : State), s.WarmedH U.vm → w.before a' U = true := by
  intro w hw a' U hW
  obtain ⟨h1, h2⟩ := h w hw
  unfold z_gw at h2
  split at h2
  · exact va_Nw.use rfl (va_Nw.warmM hW (va_Nw.of (A := args) rfl (hts _ h1)))
  · exact word_at hW (good_of_word h2) (hts _ h1)
def z_KXp (sz : Nat) (KX : State → Heap → Prop) : Prop := (∀ (s U : State) (H : Heap), KX s H → s.WarmedH U.vm → KX U H) ∧ (∀ (s : State) (H H1 : Heap), KX s H → H.size ≤ H1.size → (∀ q : Nat, q < H.size → ¬ sz ≤ q → H1[q]? = H[q]?) → KX s H1) ∧ (∀ (u U : State) (H : Heap), U.vm = u.vm → KX u H → KX U H)
def z_OK (TBL : List Cond) (cl : List vw_C) (FT : Nat → Nat → FieldType) (TY : List zTy) (PHI : List (List Nat)) (KXf : (Nat → Nat) → Nat → State → Heap → Prop) (y : MethodName) (bytes : ByteArray) (maxL : Nat) (ret : Option FieldType) (g : zSig) : Prop :=
  ∀ (l : Launch) (OB : Nat → Nat) (D : va_G) (DA : Nat → ClassId) (sz : Nat) (T : zTp), Met l y (Cond.code y bytes maxL ret :: TBL) { frames := (g_rm g).1, cells := (g_mk g).1, slots := (g_mk g).2, locals := (g_rm g).2 } (z_Pre OB D DA cl FT TY sz (KXf OB sz) g T) (z_Post OB D DA cl TY PHI sz g T) (g_mk g).1 (g_mk g).2 (fun q => sz ≤ q)
def z_lk (Ts : List Cond) (own : String) (kind i : Nat) (y : MethodName) (bytes : ByteArray) (maxL : Nat) (ret : Option FieldType) (np : Nat) : Prop :=
  Cond.code y bytes maxL ret ∈ Ts ∧ Cond.initialized y.cls ∈ Ts ∧ (y.cls ≠ "java/lang/invoke/MethodHandle" ∧ y.cls ≠ "java/lang/invoke/VarHandle") ∧ (parseMethodDescriptor y.desc).map (fun d => d.parameters.length) = some np ∧
  (match kind with
    | 0 => Cond.methodLink own i y ∈ Ts ∧ Cond.instanceMethod y ∈ Ts ∧ Cond.selects y.cls y y ∈ Ts
    | 1 => Cond.methodLink own i y ∈ Ts ∧ Cond.static y ∈ Ts
    | 2 => Cond.methodLink own i y ∈ Ts ∧ Cond.instanceMethod y ∈ Ts ∧ y.name = "<init>" ∧ ret = none
    | 4 => (∃ host, Cond.methodLinkNest own i y host ∈ Ts) ∧ Cond.static y ∈ Ts
    | _ => (∃ host, Cond.methodLinkNest own i y host ∈ Ts) ∧ Cond.instanceMethod y ∈ Ts ∧ y.name = "<init>" ∧ ret = none)
section ZCALLS3
variable {p : Program} {l : Launch} {e : Env} {R : Room} {s : State} {m : MethodId} {args : Array Value} {below : List Frame} {meth : Method} {c : Code} {Q : State → Prop} {cc : ByteArray} {pc : Nat}
variable {OB : Nat → Nat} {D : va_G} {DA : Nat → ClassId} {cl : List vw_C} {FT : Nat → Nat → FieldType} {TY : List zTy} {PHI : List (List Nat)} {sz : Nat} {raw : Option Nat} {pu : Bool} {T0 : zTp} {H0 : Heap} {env0 : List Value} {nL : Nat} {st st' : zS} {T : zTp} {H : Heap} {locs : List Loc} {env : List Value} {ls : Array Slot} {stk : List Value} {g : zSig} {KXf : (Nat → Nat) → Nat → State → Heap → Prop} {rest : List Value} {cells slots : Nat} {good : Nat → zS → Prop}
variable {Ts TBL : List Cond} {own : String} {y : MethodName} {bytes : ByteArray} {maxL np i : Nat} {ret : Option FieldType}
theorem z_nx3 (A : List Value) (x y z : Value) : (A ++ [x, y, z])[A.length]? = some x ∧ (A ++ [x, y, z])[A.length + 1]? = some y ∧ (A ++ [x, y, z])[A.length + 2]? = some z := ⟨by simp, by simp, by simp⟩
theorem z_rel2_ok {w gi : Nat} {h : zV × Option Int × Option Int} {w0 v : Value} (h1 : env[w]? = some v) (h2 : env[gi]? = some w0) (hlo : ∀ k, h.2.1 = some k → ∃ x y : Int32, w0 = .int x ∧ v = .int y ∧ x.toInt + k ≤ y.toInt) (hhi : ∀ k, h.2.2 = some k → ∃ x y : Int32, w0 = .int x ∧ v = .int y ∧ y.toInt ≤ x.toInt + k) : z_fr env (z_rel2 w gi h) := by
  intro q hq
  rcases List.mem_append.mp hq with hq | hq
  · cases hk : h.2.1 with
    | none => rw [hk] at hq; exact absurd hq List.not_mem_nil
    | some k =>
      rw [hk] at hq
      rw [List.mem_singleton.mp hq]
      obtain ⟨x, y, rfl, rfl, hxy⟩ := hlo k hk
      exact ⟨x, y, h1, h2, hxy⟩
  · cases hk : h.2.2 with
    | none => rw [hk] at hq; exact absurd hq List.not_mem_nil
    | some k =>
      rw [hk] at hq
      rw [List.mem_singleton.mp hq]
      obtain ⟨x, y, rfl, rfl, hxy⟩ := hhi k hk
      exact ⟨y, x, h2, h1, by show y.toInt + -k ≤ _; omega⟩
theorem z_emp_ok {k : zV} {v : Value} (hv : z_v OB T k v) : z_emp k = false := by
  match k, hv with
  | .inl r, ⟨x, _, h1, h2⟩ =>
    have : z_ile r.1 r.2 = true := decide_eq_true (Int.le_trans h1 h2)
    show (!(z_ile r.1 r.2)) = false
    rw [this]; rfl
  | .inr _, _ => rfl
theorem z_rfV_ok {gi : Nat} {h : zV × Option Int × Option Int} {w0 w : Value} (hs : z_sat OB D DA cl TY PHI sz raw pu T0 H0 env0 nL st T H locs env ls stk) (h1 : env[gi]? = some w0) (hv : z_v OB T h.1 w) (hlo : ∀ k, h.2.1 = some k → ∃ x y : Int32, w0 = .int x ∧ w = .int y ∧ x.toInt + k ≤ y.toInt) (hhi : ∀ k, h.2.2 = some k → ∃ x y : Int32, w0 = .int x ∧ w = .int y ∧ y.toInt ≤ x.toInt + k) : z_v OB T (z_rfV st gi h) w := by
  unfold z_rfV
  split
  · rename_i r a hr ha
    rw [hr] at hv
    obtain ⟨y, rfl, y1, y2⟩ := hv
    obtain ⟨v, e1, x, rfl, x1, x2⟩ := z_get_ok hs.2.2.2.2.1 ha
    rw [h1] at e1
    cases e1
    refine ⟨y, rfl, ?_, ?_⟩
    · show (match h.2.1 with
        | some k => z_max r.1 (a.1 + k)
        | none => r.1) ≤ _
      cases hk : h.2.1 with
      | none => exact y1
      | some k =>
        obtain ⟨x', y', g1, g2, g3⟩ := hlo k hk
        cases g1; cases g2
        exact z_max_le y1 (by omega)
    · show _ ≤ (match h.2.2 with
        | some k => z_min r.2 (a.2 + k)
        | none => r.2)
      cases hk : h.2.2 with
      | none => exact y2
      | some k =>
        obtain ⟨x', y', g1, g2, g3⟩ := hhi k hk
        cases g1; cases g2
        exact z_min_ge y2 (by omega)
  · exact hv
theorem z_nx2 (A : List Value) (x y : Value) : (A ++ [x, y])[A.length + 1]? = some y := by simp
theorem z_cnd {α : Type} {b : Bool} {o : Option α} {r : α} (h : cond b o none = some r) : b = true ∧ o = some r := by
  cases b with
  | true => exact ⟨rfl, h⟩
  | false => cases h
theorem z_rfL_ok {As : List Nat} {va : List Value} (hA2 : ∀ (j a : Nat), As[j]? = some a → ∃ x, va[j]? = some x ∧ env[a]? = some x) : ∀ {L : List ((zLoc × zV) × Nat × (zV × Option Int × Option Int))} {st : zS} {L1 : List zS} {x : List Value}, z_rfL TY As L st = some L1 →
    (∀ q ∈ L, ∃ w0 w, env[q.2.1]? = some w0 ∧ z_lv D cl H (va[q.1.1.1]?) q.1.1 w ∧ z_v OB T q.2.2.1 w ∧ (∀ k, q.2.2.2.1 = some k → ∃ x y : Int32, w0 = .int x ∧ w = .int y ∧ x.toInt + k ≤ y.toInt) ∧ (∀ k, q.2.2.2.2 = some k → ∃ x y : Int32, w0 = .int x ∧ w = .int y ∧ y.toInt ≤ x.toInt + k)) →
    z_sat OB D DA cl TY PHI sz raw pu T0 H0 env0 nL st T H locs (env ++ x) ls stk → ∃ st' x', L1 = [st'] ∧ z_sat OB D DA cl TY PHI sz raw pu T0 H0 env0 nL st' T H locs (env ++ x') ls stk ∧ z_C st' = z_C st ∧ z_S st' = z_S st ∧ ∃ w, x' = x ++ w
  | [], st, L1, x, h, _, hs => by
    cases h
    exact ⟨st, x, rfl, hs, rfl, rfl, [], by rw [List.append_nil]⟩
  | q :: r, st, L1, x, h, hq, hs => by
    obtain ⟨w0, w, e1, e2, e3, e4, e5⟩ := hq q List.mem_cons_self
    have hr := fun p hp => hq p (List.mem_cons_of_mem _ hp)
    have e3 := z_rfV_ok hs (z_app e1) e3 e4 e5
    unfold z_rfL at h
    rw [z_emp_ok e3] at h
    have h : (match As[q.1.1.1]? with
      | some a => (match q.1.1.2.2.2 with
        | none => z_rfL TY As r (z_L st, z_S st, z_n st + 1, (z_n st, z_rfV st q.2.1 q.2.2) :: z_V st, (a, q.1.1.2.1, q.1.1.2.2.1, z_n st) :: z_F st, z_E st, z_rel2 (z_n st) q.2.1 q.2.2 ++ z_R st, z_X st, z_C st, z_ph st)
        | some c => (match z_ffind st a q.1.1.2.1 q.1.1.2.2.1 with
          | some w => cond (Nat.ble c 1000000) (z_rfL TY As r (z_L st, z_S st, z_n st + 2, (z_n st + 1, z_rfV st q.2.1 q.2.2) :: (z_n st, .inl ((c : Int), (c : Int))) :: z_V st, z_F st, (w, z_n st, z_n st + 1) :: z_E st, z_rel2 (z_n st + 1) q.2.1 q.2.2 ++ z_R st, z_X st, z_C st, z_ph st)) none
          | none => (match z_get (z_V st) a with
          | some (.inr (.inl t)) => (match TY[t]? with
            | some (.inl o) => (match o.2[q.1.1.2.2.1]? with
              | some cf => cond (Nat.beq o.1 q.1.1.2.1 && Nat.ble c 1000000) (z_rfL TY As r (z_L st, z_S st, z_n st + 3, (z_n st + 2, z_rfV st q.2.1 q.2.2) :: (z_n st + 1, .inl ((c : Int), (c : Int))) :: (z_n st, cf) :: z_V st, (a, q.1.1.2.1, q.1.1.2.2.1, z_n st) :: z_F st, (z_n st, z_n st + 1, z_n st + 2) :: z_E st, z_rel2 (z_n st + 2) q.2.1 q.2.2 ++ z_R st, z_X st, z_C st, z_ph st)) none
              | none => none)
            | _ => none)
          | _ => none)))
      | none => none) = some L1 := h
    split at h
    · rename_i a ha
      obtain ⟨xa, f1, f2⟩ := hA2 _ _ ha
      obtain ⟨ad, rc, g1, g2, g3, g4⟩ := e2
      rw [f1] at g1
      cases g1
      split at h
      · rename_i ho
        rw [ho] at g4
        have hn : (env ++ (x ++ [w]))[z_n st]? = some w := by rw [← hs.1, ← List.append_assoc]; simp
        have hp : z_sat OB D DA cl TY PHI sz raw pu T0 H0 env0 nL (z_L st, z_S st, z_n st + 1, (z_n st, z_rfV st q.2.1 q.2.2) :: z_V st, (a, q.1.1.2.1, q.1.1.2.2.1, z_n st) :: z_F st, z_E st, z_rel2 (z_n st) q.2.1 q.2.2 ++ z_R st, z_X st, z_C st, z_ph st) T H locs (env ++ (x ++ [w])) ls stk := by
          rw [← List.append_assoc] at hn ⊢
          refine ⟨by show (env ++ x ++ [w]).length = z_n st + 1; rw [List.length_append, hs.1]; rfl, z_pre_app (w1 := []) hs.2.1, z_ls_app hs.2.2.1, z_stk_app hs.2.2.2.1, fun f hf => ?_, fun f hf => ?_, z_fe_app hs.2.2.2.2.2.2.1, fun f hf => ?_, z_fx_app hs.2.2.2.2.2.2.2.2.1, hs.2.2.2.2.2.2.2.2.2⟩
          · rcases List.mem_cons.mp hf with rfl | hf
            · exact ⟨_, hn, e3⟩
            · exact z_fv_app hs.2.2.2.2.1 f hf
          · rcases List.mem_cons.mp hf with rfl | hf
            · exact ⟨ad, w, rc, z_app (z_app f2), hn, g2, g3, g4⟩
            · exact z_ff_app hs.2.2.2.2.2.1 f hf
          · rcases List.mem_append.mp hf with hf | hf
            · exact z_rel2_ok hn (z_app (z_app e1)) e4 e5 f hf
            · exact z_fr_app hs.2.2.2.2.2.2.2.1 f hf
        obtain ⟨st', x', k0, k1, k2, k3, w2, k4⟩ := z_rfL_ok hA2 h hr hp
        exact ⟨st', x', k0, k1, k2, k3, [w] ++ w2, by rw [k4, List.append_assoc]⟩
      · rename_i c0 ho
        rw [ho] at g4
        obtain ⟨b, b1, b2⟩ := g4
        cases hff : z_ffind st a q.1.1.2.1 q.1.1.2.2.1 with
        | some wf =>
          rw [hff] at h
          obtain ⟨hb, h⟩ := z_cnd h
          obtain ⟨a2, v2, y1, y2, y3⟩ := z_ffind_ok hff hs
          rw [z_app f2] at y1
          cases y1
          have := z_sl_fun y3 b1
          subst this
          have hcle := Nat.le_of_ble_eq_true hb
          have hi : (Int32.ofNat c0).toInt = (c0 : Int) := Int32.toInt_ofNat_of_lt (by omega)
          have l0 : (env ++ x).length = z_n st := hs.1
          have n0 : (env ++ x ++ [.int (Int32.ofNat c0), w])[z_n st]? = some (.int (Int32.ofNat c0)) := by rw [← l0]; simp
          have n1 : (env ++ x ++ [.int (Int32.ofNat c0), w])[z_n st + 1]? = some w := by rw [← l0]; exact z_nx2 _ _ _
          have hp : z_sat OB D DA cl TY PHI sz raw pu T0 H0 env0 nL (z_L st, z_S st, z_n st + 2, (z_n st + 1, z_rfV st q.2.1 q.2.2) :: (z_n st, .inl ((c0 : Int), (c0 : Int))) :: z_V st, z_F st, (wf, z_n st, z_n st + 1) :: z_E st, z_rel2 (z_n st + 1) q.2.1 q.2.2 ++ z_R st, z_X st, z_C st, z_ph st) T H locs (env ++ (x ++ [.int (Int32.ofNat c0), w])) ls stk := by
            rw [← List.append_assoc]
            refine ⟨by show (env ++ x ++ [.int (Int32.ofNat c0), w]).length = z_n st + 2; rw [List.length_append, hs.1]; rfl, ?_, z_ls_app hs.2.2.1, z_stk_app hs.2.2.2.1, fun f hf => ?_, z_ff_app hs.2.2.2.2.2.1, fun f hf => ?_, fun f hf => ?_, z_fx_app hs.2.2.2.2.2.2.2.2.1, hs.2.2.2.2.2.2.2.2.2⟩
            · obtain ⟨w3, hw3⟩ := hs.2.1
              exact ⟨w3 ++ [.int (Int32.ofNat c0), w], by rw [hw3, List.append_assoc]⟩
            · rcases List.mem_cons.mp hf with rfl | hf
              · exact ⟨_, n1, e3⟩
              · rcases List.mem_cons.mp hf with rfl | hf
                · exact ⟨_, n0, z_vi ⟨by rw [hi]; exact Int.le_refl _, by rw [hi]; exact Int.le_refl _⟩⟩
                · exact z_fv_app hs.2.2.2.2.1 f hf
            · rcases List.mem_cons.mp hf with rfl | hf
              · exact ⟨b, _, w, z_app y2, n0, by omega, n1, by rw [hi]; simpa using b2⟩
              · exact z_fe_app hs.2.2.2.2.2.2.1 f hf
            · rcases List.mem_append.mp hf with hf | hf
              · exact z_rel2_ok n1 (z_app (z_app e1)) e4 e5 f hf
              · exact z_fr_app hs.2.2.2.2.2.2.2.1 f hf
          obtain ⟨st', x', k0, k1, k2, k3, w2, k4⟩ := z_rfL_ok hA2 h hr hp
          exact ⟨st', x', k0, k1, k2, k3, [.int (Int32.ofNat c0), w] ++ w2, by rw [k4, List.append_assoc]⟩
        | none =>
        rw [hff] at h
        simp only at h
        split at h
        · rename_i t ht
          split at h
          · rename_i o hto
            split at h
            · rename_i cf hcf
              cases hb : (Nat.beq o.1 q.1.1.2.1 && Nat.ble c0 1000000) with
              | false => rw [hb] at h; cases h
              | true =>
                rw [hb] at h
                rw [Bool.and_eq_true] at hb
                obtain ⟨ci, fl⟩ := o
                have hci : ci = q.1.1.2.1 := z_beq hb.1
                obtain ⟨a2, r2, V, y1, y2, y3, y4, y5, y6⟩ := z_obj hs ht hto
                rw [z_app f2] at y1
                cases y1
                have hcle := Nat.le_of_ble_eq_true hb.2
                have hi : (Int32.ofNat c0).toInt = (c0 : Int) := Int32.toInt_ofNat_of_lt (by omega)
                have hVk : V q.1.1.2.2.1 = .ref b := by
                  obtain ⟨cell, z1, z2, z3, z4⟩ := y5
                  have hlt : q.1.1.2.2.1 < r2.2.2 := by rw [← y4]; exact (List.getElem?_eq_some_iff.mp hcf).1
                  have z5 : z_sl H ad (D.2 q.1.1.2.1 q.1.1.2.2.1) (V q.1.1.2.2.1) := ⟨cell, z1, z3, by rw [← hci]; exact z4 _ hlt⟩
                  exact z_sl_fun z5 b1
                have hcfv := y6 _ _ hcf
                rw [hVk] at hcfv
                have l0 : (env ++ x).length = z_n st := hs.1
                have n0 : (env ++ x ++ [.ref b, .int (Int32.ofNat c0), w])[z_n st]? = some (.ref b) := by rw [← l0]; exact (z_nx3 _ _ _ _).1
                have n1 : (env ++ x ++ [.ref b, .int (Int32.ofNat c0), w])[z_n st + 1]? = some (.int (Int32.ofNat c0)) := by rw [← l0]; exact (z_nx3 _ _ _ _).2.1
                have n2 : (env ++ x ++ [.ref b, .int (Int32.ofNat c0), w])[z_n st + 2]? = some w := by rw [← l0]; exact (z_nx3 _ _ _ _).2.2
                have hp : z_sat OB D DA cl TY PHI sz raw pu T0 H0 env0 nL (z_L st, z_S st, z_n st + 3, (z_n st + 2, z_rfV st q.2.1 q.2.2) :: (z_n st + 1, .inl ((c0 : Int), (c0 : Int))) :: (z_n st, cf) :: z_V st, (a, q.1.1.2.1, q.1.1.2.2.1, z_n st) :: z_F st, (z_n st, z_n st + 1, z_n st + 2) :: z_E st, z_rel2 (z_n st + 2) q.2.1 q.2.2 ++ z_R st, z_X st, z_C st, z_ph st) T H locs (env ++ (x ++ [.ref b, .int (Int32.ofNat c0), w])) ls stk := by
                  rw [← List.append_assoc]
                  refine ⟨by show (env ++ x ++ [.ref b, .int (Int32.ofNat c0), w]).length = z_n st + 3; rw [List.length_append, hs.1]; rfl, ?_, z_ls_app hs.2.2.1, z_stk_app hs.2.2.2.1, fun f hf => ?_, fun f hf => ?_, fun f hf => ?_, fun f hf => ?_, z_fx_app hs.2.2.2.2.2.2.2.2.1, hs.2.2.2.2.2.2.2.2.2⟩
                  · obtain ⟨w3, hw3⟩ := hs.2.1
                    exact ⟨w3 ++ [.ref b, .int (Int32.ofNat c0), w], by rw [hw3, List.append_assoc]⟩
                  · rcases List.mem_cons.mp hf with rfl | hf
                    · exact ⟨_, n2, e3⟩
                    · rcases List.mem_cons.mp hf with rfl | hf
                      · exact ⟨_, n1, z_vi ⟨by rw [hi]; exact Int.le_refl _, by rw [hi]; exact Int.le_refl _⟩⟩
                      · rcases List.mem_cons.mp hf with rfl | hf
                        · exact ⟨_, n0, hcfv⟩
                        · exact z_fv_app hs.2.2.2.2.1 f hf
                  · rcases List.mem_cons.mp hf with rfl | hf
                    · exact ⟨ad, .ref b, rc, z_app (z_app f2), n0, g2, g3, b1⟩
                    · exact z_ff_app hs.2.2.2.2.2.1 f hf
                  · rcases List.mem_cons.mp hf with rfl | hf
                    · exact ⟨b, _, w, n0, n1, by omega, n2, by rw [hi]; simpa using b2⟩
                    · exact z_fe_app hs.2.2.2.2.2.2.1 f hf
                  · rcases List.mem_append.mp hf with hf | hf
                    · exact z_rel2_ok n2 (z_app (z_app e1)) e4 e5 f hf
                    · exact z_fr_app hs.2.2.2.2.2.2.2.1 f hf
                obtain ⟨st', x', k0, k1, k2, k3, w2, k4⟩ := z_rfL_ok hA2 h hr hp
                exact ⟨st', x', k0, k1, k2, k3, [.ref b, .int (Int32.ofNat c0), w] ++ w2, by rw [k4, List.append_assoc]⟩
            · cases h
          · cases h
        · cases h
    · cases h
/-- the end that came is among the states behind the call -/
theorem z_cas_ok {As gs : List Nat} {va vr : List Value} {v : Option Value} {T' : zTp} {H1 : Heap} {locs1 : List Loc} {P : zP} {L : List zS} (hAl : As.length = va.length) (hA2 : ∀ (j a : Nat), As[j]? = some a → ∃ x, va[j]? = some x ∧ env[a]? = some x) (hgl : gs.length = (g_loc g).length) (hgs : ∀ (i : Nat) (q : zLoc × zV) (w : Nat), (g_loc g)[i]? = some q → gs[i]? = some w → ∃ v : Value, env[w]? = some v ∧ z_lv D cl H (va[q.1.1]?) q.1 v)
    (hs : z_sat OB D DA cl TY PHI sz raw pu T0 H0 env0 nL (z_bas TY cl PHI g As st) T' H1 locs1 env ls vr) (hC : z_Cs OB D cl g T' va H H1 v P) (h : z_cas TY cl PHI g As gs st P = some L) :
    ∃ st' env', st' ∈ L ∧ z_C st' = ((z_C st).1 + (g_mk g).1, (z_C st).2 + (g_mk g).2) ∧ z_sat OB D DA cl TY PHI sz raw pu T0 H0 env0 nL st' T' H1 locs1 env' ls (v.toList ++ vr) := by
  obtain ⟨hCA, hCR, hCN, hCL⟩ := hC
  unfold z_cas at h
  cases h1 : z_rfA As P.1 (z_bas TY cl PHI g As st) with
  | none => rw [h1] at h; cases h
  | some L1 =>
    obtain ⟨st1, rfl, g1, g2, g3⟩ := z_rfA_ok hA2 h1 hCA hs
    simp only [h1] at h
    have step2 : ∀ st2, z_rfL TY As ((g_loc g).zip (gs.zip P.2.2.1)) st1 = some st2 → ∃ st3 x', st2 = [st3] ∧ z_sat OB D DA cl TY PHI sz raw pu T0 H0 env0 nL st3 T' H1 locs1 (env ++ x') ls vr ∧ z_C st3 = z_C st1 ∧ z_S st3 = z_S st1 := by
      intro st2 h2
      have h2 : z_rfL TY As ((g_loc g).zip (gs.zip P.2.2.1)) st1 = some st2 := h2
      have g1' : z_sat OB D DA cl TY PHI sz raw pu T0 H0 env0 nL st1 T' H1 locs1 (env ++ []) ls vr := by rw [List.append_nil]; exact g1
      obtain ⟨st3, x', k0, k1, k2, k3, _⟩ := z_rfL_ok hA2 h2 (fun q hq => by
        obtain ⟨i, hi⟩ := List.getElem?_of_mem hq
        rw [List.getElem?_zip_eq_some, List.getElem?_zip_eq_some] at hi
        obtain ⟨hi1, hi2, hi3⟩ := hi
        obtain ⟨v0, m1, m2⟩ := hgs i _ _ hi1 hi2
        obtain ⟨w0, w, n1, n2, n3, n4, n5⟩ := hCL i _ _ hi1 hi3
        have := z_lv_fun m2 n1
        subst this
        exact ⟨v0, w, m1, n2, n3, n4, n5⟩) g1'
      exact ⟨st3, x', k0, k1, k2, k3⟩
    cases h3 : z_rfL TY As ((g_loc g).zip (gs.zip P.2.2.1)) st1 with
    | none => rw [h3] at h; cases h
    | some L2 =>
      obtain ⟨st2, x', rfl, k1, k2, k3⟩ := step2 L2 h3
      rw [h3] at h
      have h : (match z_rfL TY As (P.2.2.2.map (fun q => (q, (As[q.1.1]?).getD 0, q.2, none, none))) st2 with
        | some [st3] => (match P.2.1 with
          | none => some [st3]
          | some c => some [z_psh st3 (z_S st3) c []])
        | some _ => some []
        | none => none) = some L := h
      cases h4 : z_rfL TY As (P.2.2.2.map (fun q => (q, (As[q.1.1]?).getD 0, q.2, none, none))) st2 with
      | none => rw [h4] at h; cases h
      | some L3 =>
        obtain ⟨st3, x3, rfl, j1, j2, j3, -⟩ := z_rfL_ok hA2 h4 (fun q hq => by
          obtain ⟨q0, hq0, rfl⟩ := List.mem_map.mp hq
          obtain ⟨w, n1, n2⟩ := hCN q0 hq0
          have n1' := n1
          obtain ⟨a, r, m1, -⟩ := n1'
          have hlt : q0.1.1 < As.length := by rw [hAl]; exact (List.getElem?_eq_some_iff.mp m1).1
          have hA := List.getElem?_eq_getElem hlt
          obtain ⟨x0, y1, y2⟩ := hA2 _ _ hA
          refine ⟨x0, w, ?_, n1, n2, (fun k hk => by cases hk), (fun k hk => by cases hk)⟩
          show env[(As[q0.1.1]?).getD 0]? = some x0
          rw [hA]
          exact y2) k1
        rw [h4] at h
        have hC3 : z_C st3 = ((z_C st).1 + (g_mk g).1, (z_C st).2 + (g_mk g).2) := j2.trans (k2.trans g2)
        cases hr : P.2.1 with
        | none =>
          simp only [hr] at h
          cases h
          rw [hr] at hCR
          cases v with
          | none => exact ⟨st3, _, List.mem_singleton.mpr rfl, hC3, j1⟩
          | some x => exact hCR.elim
        | some c0 =>
          simp only [hr] at h
          cases h
          rw [hr] at hCR
          cases v with
          | none => exact hCR.elim
          | some x => exact ⟨_, _, List.mem_singleton.mpr rfl, hC3, z_sat_psh j1 j1.2.2.2.1 hCR (fun q hq => absurd hq List.not_mem_nil)⟩
end ZCALLS3
end
