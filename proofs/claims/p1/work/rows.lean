section
/-! Ranges of ints, and what each operation makes of them. -/
abbrev zR : Type := Int × Int
def z_in (r : zR) (x : Int32) : Prop := r.1 ≤ x.toInt ∧ x.toInt ≤ r.2
def z_full : zR := (-2147483648, 2147483647)
theorem z_lo (x : Int32) : -2147483648 ≤ x.toInt := by have := x.le_toInt; omega
theorem z_hi (x : Int32) : x.toInt ≤ 2147483647 := by have := x.toInt_lt; omega
theorem z_in_full (x : Int32) : z_in z_full x := ⟨z_lo x, z_hi x⟩
def z_clip (lo hi : Int) : zR := if -2147483648 ≤ lo ∧ hi ≤ 2147483647 then (lo, hi) else z_full
theorem z_bmod {v : Int} (h1 : -2147483648 ≤ v) (h2 : v ≤ 2147483647) : v.bmod (2 ^ 32) = v := by
  apply Int.bmod_eq_of_le <;> omega
theorem z_clip_ok {lo hi v : Int} {x : Int32} (h1 : lo ≤ v) (h2 : v ≤ hi) (hx : x.toInt = v.bmod (2 ^ 32)) : z_in (z_clip lo hi) x := by
  unfold z_clip
  split
  · rename_i h
    rw [z_bmod (by omega) (by omega)] at hx
    exact ⟨by show lo ≤ _; omega, by show _ ≤ hi; omega⟩
  · exact z_in_full x
def z_add (a b : zR) : zR := z_clip (a.1 + b.1) (a.2 + b.2)
theorem z_add_ok {a b : zR} {x y : Int32} (hx : z_in a x) (hy : z_in b y) : z_in (z_add a b) (x + y) :=
  z_clip_ok (v := x.toInt + y.toInt) (by have := hx.1; have := hy.1; omega) (by have := hx.2; have := hy.2; omega) (Int32.toInt_add x y)
def z_sub (a b : zR) : zR := z_clip (a.1 - b.2) (a.2 - b.1)
theorem z_sub_ok {a b : zR} {x y : Int32} (hx : z_in a x) (hy : z_in b y) : z_in (z_sub a b) (x - y) :=
  z_clip_ok (v := x.toInt - y.toInt) (by have := hx.1; have := hy.2; omega) (by have := hx.2; have := hy.1; omega) (Int32.toInt_sub x y)
def z_neg (a : zR) : zR := z_clip (-a.2) (-a.1)
theorem z_neg_ok {a : zR} {x : Int32} (hx : z_in a x) : z_in (z_neg a) (-x) :=
  z_clip_ok (v := -x.toInt) (by have := hx.2; omega) (by have := hx.1; omega) (Int32.toInt_neg x)
def z_min (a b : Int) : Int := if a ≤ b then a else b
def z_max (a b : Int) : Int := if a ≤ b then b else a
theorem z_min_l (a b : Int) : z_min a b ≤ a := by unfold z_min; split <;> omega
theorem z_min_r (a b : Int) : z_min a b ≤ b := by unfold z_min; split <;> omega
theorem z_max_l (a b : Int) : a ≤ z_max a b := by unfold z_max; split <;> omega
theorem z_max_r (a b : Int) : b ≤ z_max a b := by unfold z_max; split <;> omega
def z_mul (a b : zR) : zR := z_clip (z_min (z_min (a.1 * b.1) (a.1 * b.2)) (z_min (a.2 * b.1) (a.2 * b.2))) (z_max (z_max (a.1 * b.1) (a.1 * b.2)) (z_max (a.2 * b.1) (a.2 * b.2)))
theorem z_mul_lin {p q x c : Int} (h1 : p ≤ x) (h2 : x ≤ q) : z_min (p * c) (q * c) ≤ x * c ∧ x * c ≤ z_max (p * c) (q * c) := by
  rcases Int.le_total 0 c with h | h
  · have := Int.mul_le_mul_of_nonneg_right h1 h
    have := Int.mul_le_mul_of_nonneg_right h2 h
    exact ⟨Int.le_trans (z_min_l _ _) (by omega), Int.le_trans (by omega) (z_max_r _ _)⟩
  · have := Int.mul_le_mul_of_nonpos_right h1 h
    have := Int.mul_le_mul_of_nonpos_right h2 h
    exact ⟨Int.le_trans (z_min_r _ _) (by omega), Int.le_trans (by omega) (z_max_l _ _)⟩
theorem z_mul_ok {a b : zR} {x y : Int32} (hx : z_in a x) (hy : z_in b y) : z_in (z_mul a b) (x * y) := by
  have e1 := z_mul_lin (c := y.toInt) hx.1 hx.2
  have e2 := z_mul_lin (c := a.1) hy.1 hy.2
  have e3 := z_mul_lin (c := a.2) hy.1 hy.2
  rw [Int.mul_comm b.1, Int.mul_comm b.2, Int.mul_comm y.toInt] at e2 e3
  have m1 := z_min_l (z_min (a.1 * b.1) (a.1 * b.2)) (z_min (a.2 * b.1) (a.2 * b.2))
  have m2 := z_min_r (z_min (a.1 * b.1) (a.1 * b.2)) (z_min (a.2 * b.1) (a.2 * b.2))
  have m3 := z_max_l (z_max (a.1 * b.1) (a.1 * b.2)) (z_max (a.2 * b.1) (a.2 * b.2))
  have m4 := z_max_r (z_max (a.1 * b.1) (a.1 * b.2)) (z_max (a.2 * b.1) (a.2 * b.2))
  refine z_clip_ok (v := x.toInt * y.toInt) ?_ ?_ (Int32.toInt_mul x y)
  · refine Int.le_trans ?_ e1.1
    unfold z_min at *
    split <;> omega
  · refine Int.le_trans e1.2 ?_
    unfold z_max at *
    split <;> omega
/-- division by a positive constant; else by what is not 0 -/
def z_div (a b : zR) : zR := if b.1 = b.2 ∧ 0 < b.1 then z_clip (a.1.tdiv b.1) (a.2.tdiv b.1) else if 0 ≤ a.1 ∧ 0 < b.1 then (0, z_max 0 a.2) else z_full
theorem z_div_ok {a b : zR} {x y : Int32} (hx : z_in a x) (hy : z_in b y) : z_in (z_div a b) (x / y) := by
  unfold z_div
  split
  · rename_i h
    have hy1 : y.toInt = b.1 := by have := hy.1; have := hy.2; omega
    refine z_clip_ok (v := x.toInt.tdiv y.toInt) ?_ ?_ (Int32.toInt_div x y)
    · rw [hy1]; exact Int.tdiv_le_tdiv h.2 hx.1
    · rw [hy1]; exact Int.tdiv_le_tdiv h.2 hx.2
  · split
    · rename_i h
      have h0 : 0 ≤ x.toInt := by have := hx.1; omega
      have h1 : 0 < y.toInt := by have := hy.1; omega
      have e : (x / y).toInt = x.toInt / y.toInt := by
        rw [Int32.toInt_div, Int.tdiv_eq_ediv_of_nonneg h0]
        have q1 : 0 ≤ x.toInt / y.toInt := Int.ediv_nonneg h0 (by omega)
        have q2 : x.toInt / y.toInt ≤ x.toInt := Int.ediv_le_self _ h0
        exact z_bmod (by omega) (by have := z_hi x; omega)
      have q1 : 0 ≤ x.toInt / y.toInt := Int.ediv_nonneg h0 (by omega)
      have q2 : x.toInt / y.toInt ≤ x.toInt := Int.ediv_le_self _ h0
      exact ⟨by show (0 : Int) ≤ _; omega, by show _ ≤ z_max 0 a.2; have := z_max_r 0 a.2; have := hx.2; omega⟩
    · exact z_in_full _
/-- the rest by what is above 0 -/
def z_rem (a b : zR) : zR := if 0 < b.1 then (if 0 ≤ a.1 then (if a.2 < b.1 then a else (0, z_min (z_max 0 a.2) (b.2 - 1))) else (-(b.2 - 1), if a.2 ≤ 0 then 0 else b.2 - 1)) else z_full
theorem z_rem_int (x y : Int32) (hy : 0 < y.toInt) : (x - x / y * y).toInt = x.toInt.tmod y.toInt := by
  have hd : (x / y).toInt = x.toInt.tdiv y.toInt := by
    rw [Int32.toInt_div]
    have h1 := Int.tdiv_le_tdiv hy (z_lo x)
    have h2 := Int.tdiv_le_tdiv hy (z_hi x)
    have k1 : (2147483647 : Int).tdiv y.toInt ≤ 2147483647 := by
      rw [Int.tdiv_eq_ediv_of_nonneg (by omega)]; exact Int.ediv_le_self _ (by omega)
    have k2 : -2147483648 ≤ (-2147483648 : Int).tdiv y.toInt := by
      have : (-2147483648 : Int).tdiv y.toInt = -((2147483648 : Int).tdiv y.toInt) := Int.neg_tdiv 2147483648 y.toInt
      rw [this, Int.tdiv_eq_ediv_of_nonneg (by omega)]
      have := Int.ediv_le_self y.toInt (a := 2147483648) (by omega)
      omega
    exact z_bmod (by omega) (by omega)
  have hm := Int.tmod_def x.toInt y.toInt
  have hb : -y.toInt < x.toInt.tmod y.toInt ∧ x.toInt.tmod y.toInt < y.toInt := tmod_bounds hy
  have hyh := z_hi y
  rw [Int32.toInt_sub, Int32.toInt_mul, hd, Int.mul_comm (x.toInt.tdiv y.toInt)]
  rw [Int.sub_bmod_bmod, ← hm]
  exact z_bmod (by omega) (by omega)
theorem z_tmod_bounds {a M : Int} (hM : 0 < M) : -M < a.tmod M ∧ a.tmod M < M := tmod_bounds hM
theorem z_rem_ok {a b : zR} {x y : Int32} (hx : z_in a x) (hy : z_in b y) : z_in (z_rem a b) (x - x / y * y) := by
  unfold z_rem
  split
  · rename_i h
    have hy0 : 0 < y.toInt := by have := hy.1; omega
    have e := z_rem_int x y hy0
    obtain ⟨t1, t2⟩ := z_tmod_bounds (a := x.toInt) hy0
    have hb2 := hy.2
    split
    · rename_i h0
      have hx0 : 0 ≤ x.toInt := by have := hx.1; omega
      have n0 : 0 ≤ x.toInt.tmod y.toInt := Int.tmod_nonneg _ hx0
      have n1 : x.toInt.tmod y.toInt ≤ x.toInt := by
        rw [Int.tmod_eq_emod_of_nonneg hx0]
        rw [Int.emod_def]
        have := Int.mul_nonneg (Int.le_of_lt hy0) (Int.ediv_nonneg hx0 (Int.le_of_lt hy0))
        omega
      split
      · rename_i h1
        have : x.toInt.tmod y.toInt = x.toInt := by
          rw [Int.tmod_eq_emod_of_nonneg hx0]
          exact Int.emod_eq_of_lt hx0 (by have := hx.2; have := hy.1; omega)
        exact ⟨by rw [e, this]; exact hx.1, by rw [e, this]; exact hx.2⟩
      · refine ⟨by rw [e]; exact n0, ?_⟩
        rw [e]
        show _ ≤ z_min _ _
        unfold z_min
        have := z_max_r 0 a.2
        have := hx.2
        split <;> omega
    · rename_i h0
      refine ⟨by rw [e]; show -(b.2 - 1) ≤ _; omega, ?_⟩
      rw [e]
      show _ ≤ (if a.2 ≤ 0 then (0 : Int) else b.2 - 1)
      split
      · rename_i h1
        have hx2 := hx.2
        have h3 : x.toInt.tmod y.toInt = -((-x.toInt).tmod y.toInt) := by rw [Int.neg_tmod]; omega
        have : 0 ≤ (-x.toInt).tmod y.toInt := Int.tmod_nonneg _ (by omega)
        omega
      · omega
  · exact z_in_full _
end
section
/-! Bits. -/
theorem z_nat {x : Int32} (h : 0 ≤ x.toInt) : x.toInt = (x.toBitVec.toNat : Int) := by
  have h1 : x.toInt = x.toBitVec.toInt := rfl
  rw [h1] at h ⊢
  rw [BitVec.toInt_eq_toNat_cond] at h ⊢
  have := x.toBitVec.isLt
  split <;> rename_i q
  · rfl
  · rw [if_neg q] at h; omega
theorem z_natlt {x : Int32} (h : 0 ≤ x.toInt) : x.toBitVec.toNat < 2147483648 := by
  have := z_nat h; have := z_hi x; omega
theorem z_ofnat {x : Int32} (h : x.toBitVec.toNat < 2147483648) : x.toInt = (x.toBitVec.toNat : Int) := by
  have h1 : x.toInt = x.toBitVec.toInt := rfl
  rw [h1, BitVec.toInt_eq_toNat_cond, if_pos (by omega)]
theorem z_negnat {x : Int32} : x.toInt < 0 ↔ 2147483648 ≤ x.toBitVec.toNat := by
  have h1 : x.toInt = x.toBitVec.toInt := rfl
  rw [h1, BitVec.toInt_eq_toNat_cond]
  have := x.toBitVec.isLt
  split <;> omega
theorem z_and_nat (x y : Int32) : (x &&& y).toBitVec.toNat = x.toBitVec.toNat &&& y.toBitVec.toNat := by
  rw [Int32.toBitVec_and, BitVec.toNat_and]
theorem z_or_nat (x y : Int32) : (x ||| y).toBitVec.toNat = x.toBitVec.toNat ||| y.toBitVec.toNat := by
  rw [Int32.toBitVec_or, BitVec.toNat_or]
theorem z_xor_nat (x y : Int32) : (x ^^^ y).toBitVec.toNat = x.toBitVec.toNat ^^^ y.toBitVec.toNat := by
  rw [Int32.toBitVec_xor, BitVec.toNat_xor]
def z_and (a b : zR) : zR := if a.1 = a.2 ∧ b.1 = b.2 ∧ 0 ≤ a.1 ∧ 0 ≤ b.1 then (((a.1.toNat &&& b.1.toNat : Nat) : Int), ((a.1.toNat &&& b.1.toNat : Nat) : Int)) else if 0 ≤ a.1 then (0, if 0 ≤ b.1 then z_min a.2 b.2 else a.2) else if 0 ≤ b.1 then (0, b.2) else if a.1 = -1 ∧ a.2 = -1 then b else if b.1 = -1 ∧ b.2 = -1 then a else z_full
theorem z_m1 {x : Int32} (h : x.toInt = -1) : x = -1 := Int32.toInt_inj.mp (by rw [h]; rfl)
theorem z_and_ok {a b : zR} {x y : Int32} (hx : z_in a x) (hy : z_in b y) : z_in (z_and a b) (x &&& y) := by
  have l1 : x.toBitVec.toNat &&& y.toBitVec.toNat ≤ x.toBitVec.toNat := Nat.and_le_left
  have l2 : x.toBitVec.toNat &&& y.toBitVec.toNat ≤ y.toBitVec.toNat := Nat.and_le_right
  have e := z_and_nat x y
  obtain ⟨x1, x2⟩ := hx
  obtain ⟨y1, y2⟩ := hy
  unfold z_and
  split
  · rename_i h
    have nx := z_nat (x := x) (by omega)
    have ny := z_nat (x := y) (by omega)
    have hx3 : a.1.toNat = x.toBitVec.toNat := by omega
    have hy3 : b.1.toNat = y.toBitVec.toNat := by omega
    have := z_natlt (x := x) (by omega)
    have q := z_ofnat (x := x &&& y) (by omega)
    rw [hx3, hy3, ← e]
    exact ⟨by rw [q]; exact Int.le_refl _, by rw [q]; exact Int.le_refl _⟩
  · split
    · have nx := z_nat (x := x) (by omega)
      have := z_natlt (x := x) (by omega)
      have q := z_ofnat (x := x &&& y) (by omega)
      refine ⟨by show (0 : Int) ≤ _; omega, ?_⟩
      show _ ≤ (if 0 ≤ b.1 then z_min a.2 b.2 else a.2)
      split
      · have ny := z_nat (x := y) (by omega)
        unfold z_min
        split <;> omega
      · omega
    · split
      · have ny := z_nat (x := y) (by omega)
        have := z_natlt (x := y) (by omega)
        have q := z_ofnat (x := x &&& y) (by omega)
        exact ⟨by show (0 : Int) ≤ _; omega, by show _ ≤ b.2; omega⟩
      · split
        · rename_i h
          have := z_m1 (x := x) (by omega)
          subst this
          have : (-1 : Int32) &&& y = y := by apply Int32.toBitVec_inj.mp; rw [Int32.toBitVec_and]; exact BitVec.allOnes_and
          rw [this]; exact ⟨y1, y2⟩
        · split
          · rename_i h
            have := z_m1 (x := y) (by omega)
            subst this
            have : x &&& (-1 : Int32) = x := by apply Int32.toBitVec_inj.mp; rw [Int32.toBitVec_and]; exact BitVec.and_allOnes
            rw [this]; exact ⟨x1, x2⟩
          · exact z_in_full _
/-- the least 2^k - 1 that is no less -/
def z_upF : Nat → Nat → Nat → Nat
  | 0, _, _ => 2147483648
  | f + 1, p, n => if n < p then p else z_upF f (p + p) n
def z_up (n : Nat) : Nat := z_upF 32 1 n
theorem z_upF_pow : ∀ f k n : Nat, k + f = 32 → ∃ j, z_upF f (2 ^ k) n = 2 ^ j ∧ (n < 2 ^ j ∨ j = 31)
  | 0, k, n, h => ⟨31, rfl, Or.inr rfl⟩
  | f + 1, k, n, h => by
    unfold z_upF
    split
    · exact ⟨k, rfl, Or.inl (by assumption)⟩
    · have := z_upF_pow f (k + 1) n (by omega)
      rwa [Nat.pow_succ, Nat.mul_two] at this
theorem z_up_pow {n : Nat} (h : n < 2147483648) : ∃ j, z_up n = 2 ^ j ∧ n < 2 ^ j := by
  obtain ⟨j, e, q⟩ := z_upF_pow 32 0 n rfl
  refine ⟨j, e, ?_⟩
  rcases q with q | q
  · exact q
  · subst q; exact h
theorem z_up_mono {n m : Nat} (h : n < 2147483648) (hm : m ≤ n) : m < z_up n := by
  obtain ⟨j, e, q⟩ := z_up_pow h
  omega
def z_or (a b : zR) : zR := if 0 ≤ a.1 ∧ 0 ≤ b.1 ∧ a.2 < 2147483648 ∧ b.2 < 2147483648 then (z_max a.1 b.1, ((z_up (z_max a.2 b.2).toNat : Nat) : Int) - 1) else if b.1 = 0 ∧ b.2 = 0 then a else if a.1 = 0 ∧ a.2 = 0 then b else z_full
theorem z_up_top (n : Nat) : z_up n ≤ 2147483648 := by
  obtain ⟨j, e, q⟩ := z_upF_pow 32 0 n rfl
  by_cases h : n < 2147483648
  · have key : ∀ f k : Nat, k + f = 32 → z_upF f (2 ^ k) n ≤ 2147483648 := by
      intro f
      induction f with
      | zero => intro k hk; exact Nat.le_refl _
      | succ f ih =>
        intro k hk
        unfold z_upF
        split
        · have : 2 ^ k ≤ 2 ^ 31 := Nat.pow_le_pow_right (by omega) (by omega)
          omega
        · have := ih (k + 1) (by omega)
          rwa [Nat.pow_succ, Nat.mul_two] at this
    exact key 32 0 rfl
  · have key : ∀ f k : Nat, k + f = 32 → z_upF f (2 ^ k) n ≤ 2147483648 := by
      intro f
      induction f with
      | zero => intro k hk; exact Nat.le_refl _
      | succ f ih =>
        intro k hk
        unfold z_upF
        split
        · have : 2 ^ k ≤ 2 ^ 31 := Nat.pow_le_pow_right (by omega) (by omega)
          omega
        · have := ih (k + 1) (by omega)
          rwa [Nat.pow_succ, Nat.mul_two] at this
    exact key 32 0 rfl
theorem z_int0 {x : Int32} (h : x.toInt = 0) : x = 0 := Int32.toInt_inj.mp (by rw [h]; rfl)
theorem z_or_ok {a b : zR} {x y : Int32} (hx : z_in a x) (hy : z_in b y) : z_in (z_or a b) (x ||| y) := by
  have e := z_or_nat x y
  obtain ⟨x1, x2⟩ := hx
  obtain ⟨y1, y2⟩ := hy
  unfold z_or
  split
  · rename_i h
    have nx := z_nat (x := x) (by omega)
    have ny := z_nat (x := y) (by omega)
    have m1 := z_max_l a.2 b.2
    have m2 := z_max_r a.2 b.2
    have hm : (z_max a.2 b.2).toNat < 2147483648 := by
      have : z_max a.2 b.2 < 2147483648 := by unfold z_max; split <;> omega
      omega
    obtain ⟨j, ej, q⟩ := z_up_pow hm
    have t := z_up_top (z_max a.2 b.2).toNat
    have hlt : x.toBitVec.toNat ||| y.toBitVec.toNat < 2 ^ j := Nat.or_lt_two_pow (by omega) (by omega)
    have k1 : x.toBitVec.toNat ≤ x.toBitVec.toNat ||| y.toBitVec.toNat := Nat.left_le_or
    have k2 : y.toBitVec.toNat ≤ x.toBitVec.toNat ||| y.toBitVec.toNat := Nat.right_le_or
    have w := z_ofnat (x := x ||| y) (by omega)
    refine ⟨?_, by show _ ≤ ((z_up (z_max a.2 b.2).toNat : Nat) : Int) - 1; omega⟩
    show z_max a.1 b.1 ≤ _
    unfold z_max
    split <;> omega
  · split
    · have := z_int0 (x := y) (by omega)
      subst this
      have : x ||| (0 : Int32) = x := by apply Int32.toBitVec_inj.mp; rw [Int32.toBitVec_or]; exact BitVec.or_zero
      rw [this]; exact ⟨x1, x2⟩
    · split
      · have := z_int0 (x := x) (by omega)
        subst this
        have : (0 : Int32) ||| y = y := by apply Int32.toBitVec_inj.mp; rw [Int32.toBitVec_or]; exact BitVec.zero_or
        rw [this]; exact ⟨y1, y2⟩
      · exact z_in_full _
def z_xor (a b : zR) : zR := if 0 ≤ a.1 ∧ 0 ≤ b.1 ∧ a.2 < 2147483648 ∧ b.2 < 2147483648 then (0, ((z_up (z_max a.2 b.2).toNat : Nat) : Int) - 1) else if b.1 = -1 ∧ b.2 = -1 then (-1 - a.2, -1 - a.1) else if 0 ≤ a.1 ∧ b.2 < 0 then (-2147483648, -1) else if a.2 < 0 ∧ 0 ≤ b.1 then (-2147483648, -1) else if a.2 < 0 ∧ b.2 < 0 then (0, 2147483647) else z_full
theorem z_msb (x : Int32) : x.toInt < 0 ↔ x.toBitVec.msb = true := by
  have h1 : x.toInt = x.toBitVec.toInt := rfl
  rw [h1, BitVec.msb_eq_toInt]; simp
theorem z_xor_ok {a b : zR} {x y : Int32} (hx : z_in a x) (hy : z_in b y) : z_in (z_xor a b) (x ^^^ y) := by
  have e := z_xor_nat x y
  obtain ⟨x1, x2⟩ := hx
  obtain ⟨y1, y2⟩ := hy
  have hz1 := z_lo (x ^^^ y)
  have hz2 := z_hi (x ^^^ y)
  have ms : (x ^^^ y).toInt < 0 ↔ (x.toInt < 0 ∧ ¬ y.toInt < 0) ∨ (¬ x.toInt < 0 ∧ y.toInt < 0) := by
    rw [z_msb, z_msb x, z_msb y, Int32.toBitVec_xor, BitVec.msb_xor]
    cases x.toBitVec.msb <;> cases y.toBitVec.msb <;> simp
  unfold z_xor
  split
  · rename_i h
    have nx := z_nat (x := x) (by omega)
    have ny := z_nat (x := y) (by omega)
    have m1 := z_max_l a.2 b.2
    have m2 := z_max_r a.2 b.2
    have hm : (z_max a.2 b.2).toNat < 2147483648 := by
      have : z_max a.2 b.2 < 2147483648 := by unfold z_max; split <;> omega
      omega
    obtain ⟨j, ej, q⟩ := z_up_pow hm
    have t := z_up_top (z_max a.2 b.2).toNat
    have hlt : x.toBitVec.toNat ^^^ y.toBitVec.toNat < 2 ^ j := Nat.xor_lt_two_pow (by omega) (by omega)
    have w := z_ofnat (x := x ^^^ y) (by omega)
    exact ⟨by show (0 : Int) ≤ _; omega, by show _ ≤ ((z_up (z_max a.2 b.2).toNat : Nat) : Int) - 1; omega⟩
  · split
    · have := z_m1 (x := y) (by omega)
      subst this
      have k : (x ^^^ (-1 : Int32)).toInt = -1 - x.toInt := by
        have h2 : (x ^^^ (-1 : Int32)) = ~~~x := by apply Int32.toBitVec_inj.mp; rw [Int32.toBitVec_xor, Int32.toBitVec_not]; exact BitVec.xor_allOnes
        rw [h2]
        have := Int32.toInt_not x
        have hb := z_bmod (v := -x.toInt - 1) (by have := z_hi x; omega) (by have := z_lo x; omega)
        omega
      exact ⟨by rw [k]; show -1 - a.2 ≤ _; omega, by rw [k]; show _ ≤ -1 - a.1; omega⟩
    · split
      · exact ⟨hz1, by show _ ≤ (-1 : Int); have := ms.mpr (Or.inr ⟨by omega, by omega⟩); omega⟩
      · split
        · exact ⟨hz1, by show _ ≤ (-1 : Int); have := ms.mpr (Or.inl ⟨by omega, by omega⟩); omega⟩
        · split
          · refine ⟨?_, hz2⟩
            show (0 : Int) ≤ _
            rcases Int.lt_or_le (x ^^^ y).toInt 0 with q | q
            · rcases ms.mp q with ⟨_, w⟩ | ⟨w, _⟩ <;> omega
            · exact q
          · exact z_in_full _
end
section
/-! Shifts. -/
theorem z_sm : ∀ k, k < 32 → ((nI k).toBitVec.smod 32).toNat = k := by decide +kernel
theorem z_sm31 : ∀ k, k < 32 → ((nI k &&& 31).toBitVec.smod 32).toNat = k := by decide +kernel
theorem z_um31 : ∀ k, k < 32 → (((nI k).toUInt32 &&& Int32.toUInt32 31).toBitVec % 32).toNat = k := by decide +kernel
theorem z_isI {x : Int32} (h : 0 ≤ x.toInt) : x = nI x.toInt.toNat := by
  apply Int32.toInt_inj.mp
  have := z_hi x
  rw [nI_toInt (by omega)]
  omega
/-- how far it is shifted -/
theorem z_amt (y : Int32) : ∃ k, k < 32 ∧ ((y &&& 31).toBitVec.smod 32).toNat = k ∧ (0 ≤ y.toInt → y.toInt < 32 → y.toInt = k) := by
  by_cases h : 0 ≤ y.toInt ∧ y.toInt < 32
  · have e := z_isI h.1
    refine ⟨y.toInt.toNat, by omega, ?_, fun _ _ => by omega⟩
    conv => lhs; rw [e]
    exact z_sm31 _ (by omega)
  · obtain ⟨j, hj, e⟩ := pk_andE y (m := 31) 5 rfl
    exact ⟨j, hj, by rw [e]; exact z_sm j hj, fun h1 h2 => absurd ⟨h1, h2⟩ h⟩
def z_shl (a b : zR) : zR := if 0 ≤ a.1 ∧ 0 ≤ b.1 ∧ b.2 < 31 ∧ a.2 * ((2 ^ b.2.toNat : Nat) : Int) ≤ 2147483647 then (a.1 * ((2 ^ b.1.toNat : Nat) : Int), a.2 * ((2 ^ b.2.toNat : Nat) : Int)) else if a.1 = 0 ∧ a.2 = 0 then (0, 0) else z_full
theorem z_shl_ok {a b : zR} {x y : Int32} (hx : z_in a x) (hy : z_in b y) : z_in (z_shl a b) (x <<< (y &&& 31)) := by
  obtain ⟨k, hk, ek, hk2⟩ := z_amt y
  have e := pk_shl x (y &&& 31) k ek
  obtain ⟨x1, x2⟩ := hx
  obtain ⟨y1, y2⟩ := hy
  unfold z_shl
  split
  · rename_i h
    obtain ⟨h1, h2, h3, h4⟩ := h
    have hyk := hk2 (by omega) (by omega)
    have nx := z_nat (x := x) (by omega)
    have p1 : 2 ^ k ≤ 2 ^ b.2.toNat := Nat.pow_le_pow_right (by omega) (by omega)
    have p2 : 2 ^ b.1.toNat ≤ 2 ^ k := Nat.pow_le_pow_right (by omega) (by omega)
    have m1 : (x.toBitVec.toNat : Int) * ((2 ^ k : Nat) : Int) ≤ a.2 * ((2 ^ b.2.toNat : Nat) : Int) :=
      Int.mul_le_mul (by omega) (by exact_mod_cast p1) (Int.natCast_nonneg _) (by omega)
    have m2 : a.1 * ((2 ^ b.1.toNat : Nat) : Int) ≤ (x.toBitVec.toNat : Int) * ((2 ^ k : Nat) : Int) :=
      Int.mul_le_mul (by omega) (by exact_mod_cast p2) (Int.natCast_nonneg _) (by omega)
    have m3 : ((x.toBitVec.toNat * 2 ^ k : Nat) : Int) = (x.toBitVec.toNat : Int) * ((2 ^ k : Nat) : Int) := Int.natCast_mul _ _
    have m4 : x.toBitVec.toNat * 2 ^ k < 2147483648 := by omega
    rw [Nat.mod_eq_of_lt (by omega)] at e
    have w := z_ofnat (x := x <<< (y &&& 31)) (by omega)
    exact ⟨by rw [w, e, m3]; exact m2, by rw [w, e, m3]; exact m1⟩
  · split
    · have := z_int0 (x := x) (by omega)
      subst this
      have z0 : (0 : Int32).toBitVec.toNat = 0 := rfl
      rw [z0, Nat.zero_mul, Nat.zero_mod] at e
      have w := z_ofnat (x := (0 : Int32) <<< (y &&& 31)) (by omega)
      exact ⟨by rw [w, e]; exact Int.le_refl _, by rw [w, e]; exact Int.le_refl _⟩
    · exact z_in_full _
def z_shr (a b : zR) : zR := if 0 ≤ b.1 ∧ b.2 < 32 then (if 0 ≤ a.1 then a.1 / ((2 ^ b.2.toNat : Nat) : Int) else a.1 / ((2 ^ b.1.toNat : Nat) : Int), if 0 ≤ a.2 then a.2 / ((2 ^ b.1.toNat : Nat) : Int) else a.2 / ((2 ^ b.2.toNat : Nat) : Int)) else (if 0 ≤ a.1 then 0 else a.1, if 0 ≤ a.2 then a.2 else -1)
theorem z_ediv_anti {v p q : Int} (hv : 0 ≤ v) (hp : 0 < p) (h : p ≤ q) : v / q ≤ v / p := by
  rw [Int.le_ediv_iff_mul_le hp]
  have h1 : v / q * p ≤ v / q * q := Int.mul_le_mul_of_nonneg_left h (Int.ediv_nonneg hv (by omega))
  have h2 : v / q * q ≤ v := Int.ediv_mul_le _ (by omega)
  omega
theorem z_ediv_mono {v p q : Int} (hv : v < 0) (hp : 0 < p) (h : p ≤ q) : v / p ≤ v / q := by
  rw [Int.le_ediv_iff_mul_le (by omega)]
  have h0 : v / p < 0 := Int.ediv_neg_of_neg_of_pos hv hp
  have h1 : v / p * q ≤ v / p * p := Int.mul_le_mul_of_nonpos_left (by omega) h
  have h2 : v / p * p ≤ v := Int.ediv_mul_le _ (by omega)
  omega
theorem z_shr_val {x y : Int32} {k : Nat} (ek : ((y &&& 31).toBitVec.smod 32).toNat = k) : (x >>> (y &&& 31)).toInt = x.toInt / ((2 ^ k : Nat) : Int) := by
  rw [pk_shr x (y &&& 31) k ek, Int.shiftRight_eq_div_pow]
theorem z_shr_ok {a b : zR} {x y : Int32} (hx : z_in a x) (hy : z_in b y) : z_in (z_shr a b) (x >>> (y &&& 31)) := by
  obtain ⟨k, hk, ek, hk2⟩ := z_amt y
  have e := z_shr_val (x := x) ek
  obtain ⟨x1, x2⟩ := hx
  obtain ⟨y1, y2⟩ := hy
  have pk : (0 : Int) < ((2 ^ k : Nat) : Int) := by exact_mod_cast Nat.two_pow_pos k
  unfold z_shr
  split
  · rename_i h
    have hyk := hk2 (by omega) (by omega)
    have p1 : ((2 ^ k : Nat) : Int) ≤ ((2 ^ b.2.toNat : Nat) : Int) := by exact_mod_cast (Nat.pow_le_pow_right (by omega) (by omega) : 2 ^ k ≤ 2 ^ b.2.toNat)
    have p2 : ((2 ^ b.1.toNat : Nat) : Int) ≤ ((2 ^ k : Nat) : Int) := by exact_mod_cast (Nat.pow_le_pow_right (by omega) (by omega) : 2 ^ b.1.toNat ≤ 2 ^ k)
    have q0 : (0 : Int) < ((2 ^ b.1.toNat : Nat) : Int) := by exact_mod_cast Nat.two_pow_pos _
    refine ⟨?_, ?_⟩
    · rw [e]
      show (if 0 ≤ a.1 then _ else _) ≤ _
      split
      · exact Int.le_trans (z_ediv_anti (by omega) pk p1) (Int.ediv_le_ediv pk x1)
      · exact Int.le_trans (z_ediv_mono (by omega) q0 p2) (Int.ediv_le_ediv pk x1)
    · rw [e]
      show _ ≤ (if 0 ≤ a.2 then _ else _)
      split
      · exact Int.le_trans (Int.ediv_le_ediv pk x2) (z_ediv_anti (by omega) q0 p2)
      · exact Int.le_trans (Int.ediv_le_ediv pk x2) (z_ediv_mono (by omega) pk p1)
  · refine ⟨?_, ?_⟩
    · rw [e]
      show (if 0 ≤ a.1 then (0 : Int) else a.1) ≤ _
      split
      · exact Int.ediv_nonneg (by omega) (by omega)
      · rcases Int.lt_or_le x.toInt 0 with q | q
        · have := z_ediv_mono (v := x.toInt) (p := 1) (q := ((2 ^ k : Nat) : Int)) q (by omega) (by omega)
          rw [Int.ediv_one] at this; omega
        · have := Int.ediv_nonneg q (Int.le_of_lt pk); omega
    · rw [e]
      show _ ≤ (if 0 ≤ a.2 then a.2 else (-1 : Int))
      split
      · rcases Int.lt_or_le x.toInt 0 with q | q
        · have := Int.ediv_neg_of_neg_of_pos q pk; omega
        · have := Int.ediv_le_self ((2 ^ k : Nat) : Int) q; omega
      · have := Int.ediv_neg_of_neg_of_pos (show x.toInt < 0 by omega) pk; omega
def z_ushr (a b : zR) : zR := if 0 ≤ a.1 then z_shr a b else if b.1 = b.2 ∧ 0 < b.1 ∧ b.1 < 32 then (0, ((4294967295 / 2 ^ b.1.toNat : Nat) : Int)) else z_full
theorem z_ushr_ok {a b : zR} {x y : Int32} (hx : z_in a x) (hy : z_in b y) : z_in (z_ushr a b) ((x.toUInt32 >>> (y.toUInt32 &&& Int32.toUInt32 31)).toInt32) := by
  have amt : ∀ k : Nat, k < 32 → ((y &&& 31).toBitVec.smod 32).toNat = k → ((y.toUInt32 &&& Int32.toUInt32 31).toBitVec % 32).toNat = k := by
    intro k hk h
    have h1 : (y.toUInt32 &&& Int32.toUInt32 31).toBitVec = (y &&& 31).toBitVec := rfl
    rw [h1]
    obtain ⟨j, hj, e⟩ := pk_andE y (m := 31) 5 rfl
    rw [e] at h ⊢
    rw [z_sm j hj] at h
    subst h
    have : ∀ k, k < 32 → ((nI k).toBitVec % 32).toNat = k := by decide +kernel
    exact this j hj
  obtain ⟨k, hk, ek, hk2⟩ := z_amt y
  have e := pk_ushr x y k (amt k hk ek)
  unfold z_ushr
  split
  · rename_i h
    have h0 : 0 ≤ x.toInt := by have := hx.1; omega
    have w := z_shr_ok hx hy
    have nx := z_nat h0
    have lx := z_natlt h0
    have dl : x.toBitVec.toNat / 2 ^ k ≤ x.toBitVec.toNat := Nat.div_le_self _ _
    have q := z_ofnat (x := (x.toUInt32 >>> (y.toUInt32 &&& Int32.toUInt32 31)).toInt32) (by rw [e]; omega)
    have same : (x >>> (y &&& 31)) = (x.toUInt32 >>> (y.toUInt32 &&& Int32.toUInt32 31)).toInt32 := by
      apply Int32.toInt_inj.mp
      rw [z_shr_val ek, q, e, nx]
      exact (Int.natCast_ediv _ _).symm
    rw [← same]; exact w
  · split
    · rename_i h
      obtain ⟨h1, h2, h3⟩ := h
      obtain ⟨y1, y2⟩ := hy
      have hyk := hk2 (by omega) (by omega)
      have kk : b.1.toNat = k := by omega
      have xl := x.toBitVec.isLt
      have p : x.toBitVec.toNat / 2 ^ k ≤ 4294967295 / 2 ^ k := Nat.div_le_div_right (by omega)
      have p2 : 4294967295 / 2 ^ k ≤ 4294967295 / 2 ^ 1 := Nat.div_le_div_left (Nat.pow_le_pow_right (by omega) (by omega)) (by omega)
      have q := z_ofnat (x := (x.toUInt32 >>> (y.toUInt32 &&& Int32.toUInt32 31)).toInt32) (by rw [e]; omega)
      rw [kk]
      exact ⟨by rw [q]; exact Int.natCast_nonneg _, by rw [q, e]; exact Int.ofNat_le.mpr p⟩
    · exact z_in_full _
def z_i2b (a : zR) : zR := if -128 ≤ a.1 ∧ a.2 < 128 then a else (-128, 127)
theorem z_i2b_ok {a : zR} {x : Int32} (hx : z_in a x) : z_in (z_i2b a) (x.toInt8.toInt32) := by
  have e : (x.toInt8.toInt32).toInt = x.toInt.bmod (2 ^ 8) := by rw [Int8.toInt_toInt32, Int32.toInt_toInt8]
  unfold z_i2b
  split
  · rename_i h
    have : x.toInt.bmod (2 ^ 8) = x.toInt := by
      have := hx.1; have := hx.2
      apply Int.bmod_eq_of_le <;> omega
    exact ⟨by rw [e, this]; exact hx.1, by rw [e, this]; exact hx.2⟩
  · have h1 := Int.le_bmod (x := x.toInt) (m := 2 ^ 8) (by decide)
    have h2 := Int.bmod_lt (x := x.toInt) (m := 2 ^ 8) (by decide)
    exact ⟨by rw [e]; show (-128 : Int) ≤ _; omega, by rw [e]; show _ ≤ (127 : Int); omega⟩
end
