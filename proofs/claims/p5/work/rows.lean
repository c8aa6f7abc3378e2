section
/-! Ranges of ints, and what each operation makes of them. -/
abbrev zR : Type := Int × Int
def z_in (r : zR) (x : Int32) : Prop := r.1 ≤ x.toInt ∧ x.toInt ≤ r.2
def z_full : zR := (-2147483648, 2147483647)
theorem z_lo (x : Int32) : -2147483648 ≤ x.toInt := by have := x.le_toInt; omega
theorem z_hi (x : Int32) : x.toInt ≤ 2147483647 := by have := x.toInt_lt; omega
theorem z_in_full (x : Int32) : z_in z_full x := ⟨z_lo x, z_hi x⟩
def z_clip (lo hi : Int) : zR := if -2147483648 ≤ lo ∧ hi ≤ 2147483647 then (lo, hi) else z_full
theorem z_bmod {v : Int} (h1 : -2147483648 ≤ v) (h2 : v ≤ 2147483647) : v.bmod (2 ^ 32) = v := by
  apply Int.bmod_eq_of_le <;> omega
theorem z_clip_ok {lo hi v : Int} {x : Int32} (h1 : lo ≤ v) (h2 : v ≤ hi) (hx : x.toInt = v.bmod (2 ^ 32)) : z_in (z_clip lo hi) x := by
  unfold z_clip
  split
  · rename_i h
    rw [z_bmod (by omega) (by omega)] at hx
    exact ⟨by show lo ≤ _; omega, by show _ ≤ hi; omega⟩
  · exact z_in_full x
def z_add (a b : zR) : zR := z_clip (a.1 + b.1) (a.2 + b.2)
theorem z_add_ok {a b : zR} {x y : Int32} (hx : z_in a x) (hy : z_in b y) : z_in (z_add a b) (x + y) :=
  z_clip_ok (v := x.toInt + y.toInt) (by have := hx.1; have := hy.1; omega) (by have := hx.2; have := hy.2; omega) (Int32.toInt_add x y)
def z_sub (a b : zR) : zR := z_clip (a.1 - b.2) (a.2 - b.1)
theorem z_sub_ok {a b : zR} {x y : Int32} (hx : z_in a x) (hy : z_in b y) : z_in (z_sub a b) (x - y) :=
  z_clip_ok (v := x.toInt - y.toInt) (by have := hx.1; have := hy.2; omega) (by have := hx.2; have := hy.1; omega) (Int32.toInt_sub x y)
def z_neg (a : zR) : zR := z_clip (-a.2) (-a.1)
theorem z_neg_ok {a : zR} {x : Int32} (hx : z_in a x) : z_in (z_neg a) (-x) :=
  z_clip_ok (v := -x.toInt) (by have := hx.2; omega) (by have := hx.1; omega) (Int32.toInt_neg x)
def z_min (a b : Int) : Int := if a ≤ b then a else b
def z_max (a b : Int) : Int := if a ≤ b then b else a
theorem z_min_l (a b : Int) : z_min a b ≤ a := by unfold z_min; split <;> omega
theorem z_min_r (a b : Int) : z_min a b ≤ b := by unfold z_min; split <;> omega
theorem z_max_l (a b : Int) : a ≤ z_max a b := by unfold z_max; split <;> omega
theorem z_max_r (a b : Int) : b ≤ z_max a b := by unfold z_max; split <;> omega
def z_mul (a b : zR) : zR := z_clip (z_min (z_min (a.1 * b.1) (a.1 * b.2)) (z_min (a.2 * b.1) (a.2 * b.2))) (z_max (z_max (a.1 * b.1) (a.1 * b.2)) (z_max (a.2 * b.1) (a.2 * b.2)))
theorem z_mul_lin {p q x c : Int} (h1 : p ≤ x) (h2 : x ≤ q) : z_min (p * c) (q * c) ≤ x * c ∧ x * c ≤ z_max (p * c) (q * c) := by
  rcases Int.le_total 0 c with h | h
  · have := Int.mul_le_mul_of_nonneg_right h1 h
    have := Int.mul_le_mul_of_nonneg_right h2 h
    exact ⟨Int.le_trans (z_min_l _ _) (by omega), Int.le_trans (by omega) (z_max_r _ _)⟩
  · have := Int.mul_le_mul_of_nonpos_right h1 h
    have := Int.mul_le_mul_of_nonpos_right h2 h
    exact ⟨Int.le_trans (z_min_r _ _) (by omega), Int.le_trans (by omega) (z_max_l _ _)⟩
theorem z_mul_ok {a b : zR} {x y : Int32} (hx : z_in a x) (hy : z_in b y) : z_in (z_mul a b) (x * y) := by
  have e1 := z_mul_lin (c := y.toInt) hx.1 hx.2
  have e2 := z_mul_lin (c := a.1) hy.1 hy.2
  have e3 := z_mul_lin (c := a.2) hy.1 hy.2
  rw [Int.mul_comm b.1, Int.mul_comm b.2, Int.mul_comm y.toInt] at e2 e3
  have m1 := z_min_l (z_min (a.1 * b.1) (a.1 * b.2)) (z_min (a.2 * b.1) (a.2 * b.2))
  have m2 := z_min_r (z_min (a.1 * b.1) (a.1 * b.2)) (z_min (a.2 * b.1) (a.2 * b.2))
  have m3 := z_max_l (z_max (a.1 * b.1) (a.1 * b.2)) (z_max (a.2 * b.1) (a.2 * b.2))
  have m4 := z_max_r (z_max (a.1 * b.1) (a.1 * b.2)) (z_max (a.2 * b.1) (a.2 * b.2))
  refine z_clip_ok (v := x.toInt * y.toInt) ?_ ?_ (Int32.toInt_mul x y)
  · refine Int.le_trans ?_ e1.1
    unfold z_min at *
    split <;> omega
  · refine Int.le_trans e1.2 ?_
    unfold z_max at *
    split <;> omega
/-- division by a positive constant; else by what is not 0 -/
def z_div (a b : zR) : zR := if b.1 = b.2 ∧ 0 < b.1 then z_clip (a.1.tdiv b.1) (a.2.tdiv b.1) else if 0 ≤ a.1 ∧ 0 < b.1 then (0, z_max 0 a.2) else z_full
theorem z_div_ok {a b : zR} {x y : Int32} (hx : z_in a x) (hy : z_in b y) : z_in (z_div a b) (x / y) := by
  unfold z_div
  split
  · rename_i h
    have hy1 : y.toInt = b.1 := by have := hy.1; have := hy.2; omega
    refine z_clip_ok (v := x.toInt.tdiv y.toInt) ?_ ?_ (Int32.toInt_div x y)
    · rw [hy1]; exact Int.tdiv_le_tdiv h.2 hx.1
    · rw [hy1]; exact Int.tdiv_le_tdiv h.2 hx.2
  · split
    · rename_i h
      have h0 : 0 ≤ x.toInt := by have := hx.1; omega
      have h1 : 0 < y.toInt := by have := hy.1; omega
      have e : (x / y).toInt = x.toInt / y.toInt := by
        rw [Int32.toInt_div, Int.tdiv_eq_ediv_of_nonneg h0]
        have q1 : 0 ≤ x.toInt / y.toInt := Int.ediv_nonneg h0 (by omega)
        have q2 : x.toInt / y.toInt ≤ x.toInt := Int.ediv_le_self _ h0
        exact z_bmod (by omega) (by have := z_hi x; omega)
      have q1 : 0 ≤ x.toInt / y.toInt := Int.ediv_nonneg h0 (by omega)
      have q2 : x.toInt / y.toInt ≤ x.toInt := Int.ediv_le_self _ h0
      exact ⟨by show (0 : Int) ≤ _; omega, by show _ ≤ z_max 0 a.2; have := z_max_r 0 a.2; have := hx.2; omega⟩
    · exact z_in_full _
/-- the rest by what is above 0 -/
def z_rem (a b : zR) : zR := if 0 < b.1 then (if 0 ≤ a.1 then (if a.2 < b.1 then a else (0, z_min (z_max 0 a.2) (b.2 - 1))) else (-(b.2 - 1), if a.2 ≤ 0 then 0 else b.2 - 1)) else z_full
theorem z_rem_int (x y : Int32) (hy : 0 < y.toInt) : (x - x / y * y).toInt = x.toInt.tmod y.toInt := by
  have hd : (x / y).toInt = x.toInt.tdiv y.toInt := by
    rw [Int32.toInt_div]
    have h1 := Int.tdiv_le_tdiv hy (z_lo x)
    have h2 := Int.tdiv_le_tdiv hy (z_hi x)
    have k1 : (2147483647 : Int).tdiv y.toInt ≤ 2147483647 := by
      rw [Int.tdiv_eq_ediv_of_nonneg (by omega)]; exact Int.ediv_le_self _ (by omega)
    have k2 : -2147483648 ≤ (-2147483648 : Int).tdiv y.toInt := by
      have : (-2147483648 : Int).tdiv y.toInt = -((2147483648 : Int).tdiv y.toInt) := Int.neg_tdiv 2147483648 y.toInt
      rw [this, Int.tdiv_eq_ediv_of_nonneg (by omega)]
      have := Int.ediv_le_self y.toInt (a := 2147483648) (by omega)
      omega
    exact z_bmod (by omega) (by omega)
  have hm := Int.tmod_def x.toInt y.toInt
  have hb : -y.toInt < x.toInt.tmod y.toInt ∧ x.toInt.tmod y.toInt < y.toInt := tmod_bounds hy
  have hyh := z_hi y
  rw [Int32.toInt_sub, Int32.toInt_mul, hd, Int.mul_comm (x.toInt.tdiv y.toInt)]
  rw [Int.sub_bmod_bmod, ← hm]
  exact z_bmod (by omega) (by omega)
theorem z_tmod_bounds {a M : Int} (hM : 0 < M) : -M < a.tmod M ∧ a.tmod M < M := tmod_bounds hM
theorem z_rem_ok {a b : zR} {x y : Int32} (hx : z_in a x) (hy : z_in b y) : z_in (z_rem a b) (x - x / y * y) := by
  unfold z_rem
  split
  · rename_i h
    have hy0 : 0 < y.toInt := by have := hy.1; omega
    have e := z_rem_int x y hy0
    obtain ⟨t1, t2⟩ := z_tmod_bounds (a := x.toInt) hy0
    have hb2 := hy.2
    split
    · rename_i h0
      have hx0 : 0 ≤ x.toInt := by have := hx.1; omega
      have n0 : 0 ≤ x.toInt.tmod y.toInt := Int.tmod_nonneg _ hx0
      have n1 : x.toInt.tmod y.toInt ≤ x.toInt := by
        rw [Int.tmod_eq_emod_of_nonneg hx0]
        rw [Int.emod_def]
        have := Int.mul_nonneg (Int.le_of_lt hy0) (Int.ediv_nonneg hx0 (Int.le_of_lt hy0))
        omega
      split
      · rename_i h1
        have : x.toInt.tmod y.toInt = x.toInt := by
          rw [Int.tmod_eq_emod_of_nonneg hx0]
          exact Int.emod_eq_of_lt hx0 (by have := hx.2; have := hy.1; omega)
        exact ⟨by rw [e, this]; exact hx.1, by rw [e, this]; exact hx.2⟩
      · refine ⟨by rw [e]; exact n0, ?_⟩
        rw [e]
        show _ ≤ z_min _ _
        unfold z_min
        have := z_max_r 0 a.2
        have := hx.2
        split <;> omega
    · rename_i h0
      refine ⟨by rw [e]; show -(b.2 - 1) ≤ _; omega, ?_⟩
      rw [e]
      show _ ≤ (if a.2 ≤ 0 then (0 : Int) else b.2 - 1)
      split
      · rename_i h1
        have hx2 := hx.2
        have h3 : x.toInt.tmod y.toInt = -((-x.toInt).tmod y.toInt) := by rw [Int.neg_tmod]; omega
        have : 0 ≤ (-x.toInt).tmod y.toInt := Int.tmod_nonneg _ (by omega)
        omega
      · omega
  · exact z_in_full _
end
section
/-! Bits. -/
theorem z_nat {x : Int32} (h : 0 ≤ x.toInt) : x.toInt = (x.toBitVec.toNat : Int) := by
  have h1 : x.toInt = x.toBitVec.toInt := rfl
  rw [h1] at h ⊢
  rw [BitVec.toInt_eq_toNat_cond] at h ⊢
  have := x.toBitVec.isLt
  split <;> rename_i q
  · rfl
  · rw [if_neg q] at h; omega
theorem z_natlt {x : Int32} (h : 0 ≤ x.toInt) : x.toBitVec.toNat < 2147483648 := by
  have := z_nat h; have := z_hi x; omega
theorem z_ofnat {x : Int32} (h : x.toBitVec.toNat < 2147483648) : x.toInt = (x.toBitVec.toNat : Int) := by
  have h1 : x.toInt = x.toBitVec.toInt := rfl
  rw [h1, BitVec.toInt_eq_toNat_cond, if_pos (by omega)]
theorem z_negnat {x : Int32} : x.toInt < 0 ↔ 2147483648 ≤ x.toBitVec.toNat := by
  have h1 : x.toInt = x.toBitVec.toInt := rfl
  rw [h1, BitVec.toInt_eq_toNat_cond]
  have := x.toBitVec.isLt
  split <;> omega
theorem z_and_nat (x y : Int32) : (x &&& y).toBitVec.toNat = x.toBitVec.toNat &&& y.toBitVec.toNat := by
  rw [Int32.toBitVec_and, BitVec.toNat_and]
theorem z_or_nat (x y : Int32) : (x ||| y).toBitVec.toNat = x.toBitVec.toNat ||| y.toBitVec.toNat := by
  rw [Int32.toBitVec_or, BitVec.toNat_or]
theorem z_xor_nat (x y : Int32) : (x ^^^ y).toBitVec.toNat = x.toBitVec.toNat ^^^ y.toBitVec.toNat := by
  rw [Int32.toBitVec_xor, BitVec.toNat_xor]
def z_and (a b : zR) : zR := if a.1 = a.2 ∧ b.1 = b.2 ∧ 0 ≤ a.1 ∧ 0 ≤ b.1 then (((a.1.toNat &&& b.1.toNat : Nat) : Int), ((a.1.toNat &&& b.1.toNat : Nat) : Int)) else if 0 ≤ a.1 then (0, if 0 ≤ b.1 then z_min a.2 b.2 else a.2) else if 0 ≤ b.1 then (0, b.2) else if a.1 = -1 ∧ a.2 = -1 then b else if b.1 = -1 ∧ b.2 = -1 then a else z_full
theorem z_m1 {x : Int32} (h : x.toInt = -1) : x = -1 := Int32.toInt_inj.mp (by rw [h]; rfl)
theorem z_and_ok {a b : zR} {x y : Int32} (hx : z_in a x) (hy : z_in b y) : z_in (z_and a b) (x &&& y) := by
  have l1 : x.toBitVec.toNat &&& y.toBitVec.toNat ≤ x.toBitVec.toNat := Nat.and_le_left
  have l2 : x.toBitVec.toNat &&& y.toBitVec.toNat ≤ y.toBitVec.toNat := Nat.and_le_right
  have e := z_and_nat x y
  obtain ⟨x1, x2⟩ := hx
  obtain ⟨y1, y2⟩ := hy
  unfold z_and
  split
  · rename_i h
    have nx := z_nat (x := x) (by omega)
    have ny := z_nat (x := y) (by omega)
    have hx3 : a.1.toNat = x.toBitVec.toNat := by omega
    have hy3 : b.1.toNat = y.toBitVec.toNat := by omega
    have := z_natlt (x := x) (by omega)
    have q := z_ofnat (x := x &&& y) (by omega)
    rw [hx3, hy3, ← e]
    exact ⟨by rw [q]; exact Int.le_refl _, by rw [q]; exact Int.le_refl _⟩
  · split
    · have nx := z_nat (x := x) (by omega)
      have := z_natlt (x := x) (by omega)
      have q := z_ofnat (x := x &&& y) (by omega)
      refine ⟨by show (0 : Int) ≤ _; omega, ?_⟩
      show _ ≤ (if 0 ≤ b.1 then z_min a.2 b.2 else a.2)
      split
      · have ny := z_nat (x := y) (by omega)
        unfold z_min
        split <;> omega
      · omega
    · split
      · have ny := z_nat (x := y) (by omega)
        have := z_natlt (x := y) (by omega)
        have q := z_ofnat (x := x &&& y) (by omega)
        exact ⟨by show (0 : Int) ≤ _; omega, by show _ ≤ b.2; omega⟩
      · split
        · rename_i h
          have := z_m1 (x := x) (by omega)
          subst this
          have : (-1 : Int32) &&& y = y := by apply Int32.toBitVec_inj.mp; rw [Int32.toBitVec_and]; exact BitVec.allOnes_and
          rw [this]; exact ⟨y1, y2⟩
        · split
          · rename_i h
            have := z_m1 (x := y) (by omega)
            subst this
            have : x &&& (-1 : Int32) = x := by apply Int32.toBitVec_inj.mp; rw [Int32.toBitVec_and]; exact BitVec.and_allOnes
            rw [this]; exact ⟨x1, x2⟩
          · exact z_in_full _
/-- the least 2^k - 1 that is no less -/
def z_upF : Nat → Nat → Nat → Nat
  | 0, _, _ => 2147483648
  | f + 1, p, n => if n < p then p else z_upF f (p + p) n
def z_up (n : Nat) : Nat := z_upF 32 1 n
theorem z_upF_pow : ∀ f k n : Nat, k + f = 32 → ∃ j, z_upF f (2 ^ k) n = 2 ^ j ∧ (n < 2 ^ j ∨ j = 31)
  | 0, k, n, h => ⟨31, rfl, Or.inr rfl⟩
  | f + 1, k, n, h => by
    unfold z_upF
    split
    · exact ⟨k, rfl, Or.inl (by assumption)⟩
    · have := z_upF_pow f (k + 1) n (by omega)
      rwa [Nat.pow_succ, Nat.mul_two] at this
theorem z_up_pow {n : Nat} (h : n < 2147483648) : ∃ j, z_up n = 2 ^ j ∧ n < 2 ^ j := by
  obtain ⟨j, e, q⟩ := z_upF_pow 32 0 n rfl
  refine ⟨j, e, ?_⟩
  rcases q with q | q
  · exact q
  · subst q; exact h
theorem z_up_mono {n m : Nat} (h : n < 2147483648) (hm : m ≤ n) : m < z_up n := by
  obtain ⟨j, e, q⟩ := z_up_pow h
  omega
def z_or (a b : zR) : zR := if 0 ≤ a.1 ∧ 0 ≤ b.1 ∧ a.2 < 2147483648 ∧ b.2 < 2147483648 then (z_max a.1 b.1, ((z_up (z_max a.2 b.2).toNat : Nat) : Int) - 1) else if b.1 = 0 ∧ b.2 = 0 then a else if a.1 = 0 ∧ a.2 = 0 then b else z_full
theorem z_up_top (n : Nat) : z_up n ≤ 2147483648 := by
  obtain ⟨j, e, q⟩ := z_upF_pow 32 0 n rfl
  by_cases h : n < 2147483648
  · have key : ∀ f k : Nat, k + f = 32 → z_upF f (2 ^ k) n ≤ 2147483648 := by
      intro f
      induction f with
      | zero => intro k hk; exact Nat.le_refl _
      | succ f ih =>
        intro k hk
        unfold z_upF
        split
        · have : 2 ^ k ≤ 2 ^ 31 := Nat.pow_le_pow_right (by omega) (by omega)
          omega
        · have := ih (k + 1) (by omega)
          rwa [Nat.pow_succ, Nat.mul_two] at this
    exact key 32 0 rfl
  · have key : ∀ f k : Nat, k + f = 32 → z_upF f (2 ^ k) n ≤ 2147483648 := by
      intro f
      induction f with
      | zero => intro k hk; exact Nat.le_refl _
      | succ f ih =>
        intro k hk
        unfold z_upF
        split
        · have : 2 ^ k ≤ 2 ^ 31 := Nat.pow_le_pow_right (by omega) (by omega)
          omega
        · have := ih (k + 1) (by omega)
          rwa [Nat.pow_succ, Nat.mul_two] at this
    exact key 32 0 rfl
theorem z_int0 {x : Int32} (h : x.toInt = 0) : x = 0 := Int32.toInt_inj.mp (by rw [h]; rfl)
theorem z_or_ok {a b : zR} {x y : Int32} (hx : z_in a x) (hy : z_in b y) : z_in (z_or a b) (x ||| y) := by
  have e := z_or_nat x y
  obtain ⟨x1, x2⟩ := hx
  obtain ⟨y1, y2⟩ := hy
  unfold z_or
  split
  · rename_i h
    have nx := z_nat (x := x) (by omega)
    have ny := z_nat (x := y) (by omega)
    have m1 := z_max_l a.2 b.2
    have m2 := z_max_r a.2 b.2
    have hm : (z_max a.2 b.2).toNat < 2147483648 := by
      have : z_max a.2 b.2 < 2147483648 := by unfold z_max; split <;> omega
      omega
    obtain ⟨j, ej, q⟩ := z_up_pow hm
    have t := z_up_top (z_max a.2 b.2).toNat
    have hlt : x.toBitVec.toNat ||| y.toBitVec.toNat < 2 ^ j := Nat.or_lt_two_pow (by omega) (by omega)
    have k1 : x.toBitVec.toNat ≤ x.toBitVec.toNat ||| y.toBitVec.toNat := Nat.left_le_or
    have k2 : y.toBitVec.toNat ≤ x.toBitVec.toNat ||| y.toBitVec.toNat := Nat.right_le_or
    have w := z_ofnat (x := x ||| y) (by omega)
    refine ⟨?_, by show _ ≤ ((z_up (z_max a.2 b.2).toNat : Nat) : Int) - 1; omega⟩
    show z_max a.1 b.1 ≤ _
    unfold z_max
    split <;> omega
  · split
    · have := z_int0 (x := y) (by omega)
      subst this
      have : x ||| (0 : Int32) = x := by apply Int32.toBitVec_inj.mp; rw [Int32.toBitVec_or]; exact BitVec.or_zero
      rw [this]; exact ⟨x1, x2⟩
    · split
      · have := z_int0 (x := x) (by omega)
        subst this
        have : (0 : Int32) ||| y = y := by apply Int32.toBitVec_inj.mp; rw [Int32.toBitVec_or]; exact BitVec.zero_or
        rw [this]; exact ⟨y1, y2⟩
      · exact z_in_full _
def z_xor (a b : zR) : zR := if 0 ≤ a.1 ∧ 0 ≤ b.1 ∧ a.2 < 2147483648 ∧ b.2 < 2147483648 then (0, ((z_up (z_max a.2 b.2).toNat : Nat) : Int) - 1) else if b.1 = -1 ∧ b.2 = -1 then (-1 - a.2, -1 - a.1) else if 0 ≤ a.1 ∧ b.2 < 0 then (-2147483648, -1) else if a.2 < 0 ∧ 0 ≤ b.1 then (-2147483648, -1) else if a.2 < 0 ∧ b.2 < 0 then (0, 2147483647) else z_full
theorem z_msb (x : Int32) : x.toInt < 0 ↔ x.toBitVec.msb = true := by
  have h1 : x.toInt = x.toBitVec.toInt := rfl
  rw [h1, BitVec.msb_eq_toInt]; simp
theorem z_xor_ok {a b : zR} {x y : Int32} (hx : z_in a x) (hy : z_in b y) : z_in (z_xor a b) (x ^^^ y) := by
  have e := z_xor_nat x y
  obtain ⟨x1, x2⟩ := hx
  obtain ⟨y1, y2⟩ := hy
  have hz1 := z_lo (x ^^^ y)
  have hz2 := z_hi (x ^^^ y)
  have ms : (x ^^^ y).toInt < 0 ↔ (x.toInt < 0 ∧ ¬ y.toInt < 0) ∨ (¬ x.toInt < 0 ∧ y.toInt < 0) := by
    rw [z_msb, z_msb x, z_msb y, Int32.toBitVec_xor, BitVec.msb_xor]
    cases x.toBitVec.msb <;> cases y.toBitVec.msb <;> simp
  unfold z_xor
  split
  · rename_i h
    have nx := z_nat (x := x) (by omega)
    have ny := z_nat (x := y) (by omega)
    have m1 := z_max_l a.2 b.2
    have m2 := z_max_r a.2 b.2
    have hm : (z_max a.2 b.2).toNat < 2147483648 := by
      have : z_max a.2 b.2 < 2147483648 := by unfold z_max; split <;> omega
      omega
    obtain ⟨j, ej, q⟩ := z_up_pow hm
    have t := z_up_top (z_max a.2 b.2).toNat
    have hlt : x.toBitVec.toNat ^^^ y.toBitVec.toNat < 2 ^ j := Nat.xor_lt_two_pow (by omega) (by omega)
    have w := z_ofnat (x := x ^^^ y) (by omega)
    exact ⟨by show (0 : Int) ≤ _; omega, by show _ ≤ ((z_up (z_max a.2 b.2).toNat : Nat) : Int) - 1; omega⟩
  · split
    · have := z_m1 (x := y) (by omega)
      subst this
      have k : (x ^^^ (-1 : Int32)).toInt = -1 - x.toInt := by
        have h2 : (x ^^^ (-1 : Int32)) = ~~~x := by apply Int32.toBitVec_inj.mp; rw [Int32.toBitVec_xor, Int32.toBitVec_not]; exact BitVec.xor_allOnes
        rw [h2]
        have := Int32.toInt_not x
        have hb := z_bmod (v := -x.toInt - 1) (by have := z_hi x; omega) (by have := z_lo x; omega)
        omega
      exact ⟨by rw [k]; show -1 - a.2 ≤ _; omega, by rw [k]; show _ ≤ -1 - a.1; omega⟩
    · split
      · exact ⟨hz1, by show _ ≤ (-1 : Int); have := ms.mpr (Or.inr ⟨by omega, by omega⟩); omega⟩
      · split
        · exact ⟨hz1, by show _ ≤ (-1 : Int); have := ms.mpr (Or.inl ⟨by omega, by omega⟩); omega⟩
        · split
          · refine ⟨?_, hz2⟩
            show (0 : Int) ≤ _
            rcases Int.lt_or_le (x ^^^ y).toInt 0 with q | q
            · rcases ms.mp q with ⟨_, w⟩ | ⟨w, _⟩ <;> omega
            · exact q
          · exact z_in_full _
end
section
/-! Shifts. -/
theorem z_sm : ∀ k, k < 32 → ((nI k).toBitVec.smod 32).toNat = k := by decide +kernel
theorem z_sm31 : ∀ k, k < 32 → ((nI k &&& 31).toBitVec.smod 32).toNat = k := by decide +kernel
theorem z_um31 : ∀ k, k < 32 → (((nI k).toUInt32 &&& Int32.toUInt32 31).toBitVec % 32).toNat = k := by decide +kernel
theorem z_isI {x : Int32} (h : 0 ≤ x.toInt) : x = nI x.toInt.toNat := by
  apply Int32.toInt_inj.mp
  have := z_hi x
  rw [nI_toInt (by omega)]
  omega
/-- how far it is shifted -/
theorem z_amt (y : Int32) : ∃ k, k < 32 ∧ ((y &&& 31).toBitVec.smod 32).toNat = k ∧ (0 ≤ y.toInt → y.toInt < 32 → y.toInt = k) := by
  by_cases h : 0 ≤ y.toInt ∧ y.toInt < 32
  · have e := z_isI h.1
    refine ⟨y.toInt.toNat, by omega, ?_, fun _ _ => by omega⟩
    conv => lhs; rw [e]
    exact z_sm31 _ (by omega)
  · obtain ⟨j, hj, e⟩ := pk_andE y (m := 31) 5 rfl
    exact ⟨j, hj, by rw [e]; exact z_sm j hj, fun h1 h2 => absurd ⟨h1, h2⟩ h⟩
def z_shl (a b : zR) : zR := if 0 ≤ a.1 ∧ 0 ≤ b.1 ∧ b.2 < 31 ∧ a.2 * ((2 ^ b.2.toNat : Nat) : Int) ≤ 2147483647 then (a.1 * ((2 ^ b.1.toNat : Nat) : Int), a.2 * ((2 ^ b.2.toNat : Nat) : Int)) else if a.1 = 0 ∧ a.2 = 0 then (0, 0) else z_full
theorem z_shl_ok {a b : zR} {x y : Int32} (hx : z_in a x) (hy : z_in b y) : z_in (z_shl a b) (x <<< (y &&& 31)) := by
  obtain ⟨k, hk, ek, hk2⟩ := z_amt y
  have e := pk_shl x (y &&& 31) k ek
  obtain ⟨x1, x2⟩ := hx
  obtain ⟨y1, y2⟩ := hy
  unfold z_shl
  split
  · rename_i h
    obtain ⟨h1, h2, h3, h4⟩ := h
    have hyk := hk2 (by omega) (by omega)
    have nx := z_nat (x := x) (by omega)
    have p1 : 2 ^ k ≤ 2 ^ b.2.toNat := Nat.pow_le_pow_right (by omega) (by omega)
    have p2 : 2 ^ b.1.toNat ≤ 2 ^ k := Nat.pow_le_pow_right (by omega) (by omega)
    have m1 : (x.toBitVec.toNat : Int) * ((2 ^ k : Nat) : Int) ≤ a.2 * ((2 ^ b.2.toNat : Nat) : Int) :=
      Int.mul_le_mul (by omega) (by exact_mod_cast p1) (Int.natCast_nonneg _) (by omega)
    have m2 : a.1 * ((2 ^ b.1.toNat : Nat) : Int) ≤ (x.toBitVec.toNat : Int) * ((2 ^ k : Nat) : Int) :=
      Int.mul_le_mul (by omega) (by exact_mod_cast p2) (Int.natCast_nonneg _) (by omega)
    have m3 : ((x.toBitVec.toNat * 2 ^ k : Nat) : Int) = (x.toBitVec.toNat : Int) * ((2 ^ k : Nat) : Int) := Int.natCast_mul _ _
    have m4 : x.toBitVec.toNat * 2 ^ k < 2147483648 := by omega
    rw [Nat.mod_eq_of_lt (by omega)] at e
    have w := z_ofnat (x := x <<< (y &&& 31)) (by omega)
    exact ⟨by rw [w, e, m3]; exact m2, by rw [w, e, m3]; exact m1⟩
  · split
    · have := z_int0 (x := x) (by omega)
      subst this
      have z0 : (0 : Int32).toBitVec.toNat = 0 := rfl
      rw [z0, Nat.zero_mul, Nat.zero_mod] at e
      have w := z_ofnat (x := (0 : Int32) <<< (y &&& 31)) (by omega)
      exact ⟨by rw [w, e]; exact Int.le_refl _, by rw [w, e]; exact Int.le_refl _⟩
    · exact z_in_full _
def z_shr (a b : zR) : zR := if 0 ≤ b.1 ∧ b.2 < 32 then (if 0 ≤ a.1 then a.1 / ((2 ^ b.2.toNat : Nat) : Int) else a.1 / ((2 ^ b.1.toNat : Nat) : Int), if 0 ≤ a.2 then a.2 / ((2 ^ b.1.toNat : Nat) : Int) else a.2 / ((2 ^ b.2.toNat : Nat) : Int)) else (if 0 ≤ a.1 then 0 else a.1, if 0 ≤ a.2 then a.2 else -1)
theorem z_ediv_anti {v p q : Int} (hv : 0 ≤ v) (hp : 0 < p) (h : p ≤ q) : v / q ≤ v / p := by
  rw [Int.le_ediv_iff_mul_le hp]
  have h1 : v / q * p ≤ v / q * q := Int.mul_le_mul_of_nonneg_left h (Int.ediv_nonneg hv (by omega))
  have h2 : v / q * q ≤ v := Int.ediv_mul_le _ (by omega)
  omega
theorem z_ediv_mono {v p q : Int} (hv : v < 0) (hp : 0 < p) (h : p ≤ q) : v / p ≤ v / q := by
  rw [Int.le_ediv_iff_mul_le (by omega)]
  have h0 : v / p < 0 := Int.ediv_neg_of_neg_of_pos hv hp
  have h1 : v / p * q ≤ v / p * p := Int.mul_le_mul_of_nonpos_left (by omega) h
  have h2 : v / p * p ≤ v := Int.ediv_mul_le _ (by omega)
  omega
theorem z_shr_val {x y : Int32} {k : Nat} (ek : ((y &&& 31).toBitVec.smod 32).toNat = k) : (x >>> (y &&& 31)).toInt = x.toInt / ((2 ^ k : Nat) : Int) := by
  rw [pk_shr x (y &&& 31) k ek, Int.shiftRight_eq_div_pow]
theorem z_shr_ok {a b : zR} {x y : Int32} (hx : z_in a x) (hy : z_in b y) : z_in (z_shr a b) (x >>> (y &&& 31)) := by
  obtain ⟨k, hk, ek, hk2⟩ := z_amt y
  have e := z_shr_val (x := x) ek
  obtain ⟨x1, x2⟩ := hx
  obtain ⟨y1, y2⟩ := hy
  have pk : (0 : Int) < ((2 ^ k : Nat) : Int) := by exact_mod_cast Nat.two_pow_pos k
  unfold z_shr
  split
  · rename_i h
    have hyk := hk2 (by omega) (by omega)
    have p1 : ((2 ^ k : Nat) : Int) ≤ ((2 ^ b.2.toNat : Nat) : Int) := by exact_mod_cast (Nat.pow_le_pow_right (by omega) (by omega) : 2 ^ k ≤ 2 ^ b.2.toNat)
    have p2 : ((2 ^ b.1.toNat : Nat) : Int) ≤ ((2 ^ k : Nat) : Int) := by exact_mod_cast (Nat.pow_le_pow_right (by omega) (by omega) : 2 ^ b.1.toNat ≤ 2 ^ k)
    have q0 : (0 : Int) < ((2 ^ b.1.toNat : Nat) : Int) := by exact_mod_cast Nat.two_pow_pos _
    refine ⟨?_, ?_⟩
    · rw [e]
      show (if 0 ≤ a.1 then _ else _) ≤ _
      split
      · exact Int.le_trans (z_ediv_anti (by omega) pk p1) (Int.ediv_le_ediv pk x1)
      · exact Int.le_trans (z_ediv_mono (by omega) q0 p2) (Int.ediv_le_ediv pk x1)
    · rw [e]
      show _ ≤ (if 0 ≤ a.2 then _ else _)
      split
      · exact Int.le_trans (Int.ediv_le_ediv pk x2) (z_ediv_anti (by omega) q0 p2)
      · exact Int.le_trans (Int.ediv_le_ediv pk x2) (z_ediv_mono (by omega) pk p1)
  · refine ⟨?_, ?_⟩
    · rw [e]
      show (if 0 ≤ a.1 then (0 : Int) else a.1) ≤ _
      split
      · exact Int.ediv_nonneg (by omega) (by omega)
      · rcases Int.lt_or_le x.toInt 0 with q | q
        · have := z_ediv_mono (v := x.toInt) (p := 1) (q := ((2 ^ k : Nat) : Int)) q (by omega) (by omega)
          rw [Int.ediv_one] at this; omega
        · have := Int.ediv_nonneg q (Int.le_of_lt pk); omega
    · rw [e]
      show _ ≤ (if 0 ≤ a.2 then a.2 else (-1 : Int))
      split
      · rcases Int.lt_or_le x.toInt 0 with q | q
        · have := Int.ediv_neg_of_neg_of_pos q pk; omega
        · have := Int.ediv_le_self ((2 ^ k : Nat) : Int) q; omega
      · have := Int.ediv_neg_of_neg_of_pos (show x.toInt < 0 by omega) pk; omega
def z_ushr (a b : zR) : zR := if 0 ≤ a.1 then z_shr a b else if b.1 = b.2 ∧ 0 < b.1 ∧ b.1 < 32 then (0, ((4294967295 / 2 ^ b.1.toNat : Nat) : Int)) else z_full
theorem z_ushr_ok {a b : zR} {x y : Int32} (hx : z_in a x) (hy : z_in b y) : z_in (z_ushr a b) ((x.toUInt32 >>> (y.toUInt32 &&& Int32.toUInt32 31)).toInt32) := by
  have amt : ∀ k : Nat, k < 32 → ((y &&& 31).toBitVec.smod 32).toNat = k → ((y.toUInt32 &&& Int32.toUInt32 31).toBitVec % 32).toNat = k := by
    intro k hk h
    have h1 : (y.toUInt32 &&& Int32.toUInt32 31).toBitVec = (y &&& 31).toBitVec := rfl
    rw [h1]
    obtain ⟨j, hj, e⟩ := pk_andE y (m := 31) 5 rfl
    rw [e] at h ⊢
    rw [z_sm j hj] at h
    subst h
    have : ∀ k, k < 32 → ((nI k).toBitVec % 32).toNat = k := by decide +kernel
    exact this j hj
  obtain ⟨k, hk, ek, hk2⟩ := z_amt y
  have e := pk_ushr x y k (amt k hk ek)
  unfold z_ushr
  split
  · rename_i h
    have h0 : 0 ≤ x.toInt := by have := hx.1; omega
    have w := z_shr_ok hx hy
    have nx := z_nat h0
    have lx := z_natlt h0
    have dl : x.toBitVec.toNat / 2 ^ k ≤ x.toBitVec.toNat := Nat.div_le_self _ _
    have q := z_ofnat (x := (x.toUInt32 >>> (y.toUInt32 &&& Int32.toUInt32 31)).toInt32) (by rw [e]; omega)
    have same : (x >>> (y &&& 31)) = (x.toUInt32 >>> (y.toUInt32 &&& Int32.toUInt32 31)).toInt32 := by
      apply Int32.toInt_inj.mp
      rw [z_shr_val ek, q, e, nx]
      exact (Int.natCast_ediv _ _).symm
    rw [← same]; exact w
  · split
    · rename_i h
      obtain ⟨h1, h2, h3⟩ := h
      obtain ⟨y1, y2⟩ := hy
      have hyk := hk2 (by omega) (by omega)
      have kk : b.1.toNat = k := by omega
      have xl := x.toBitVec.isLt
      have p : x.toBitVec.toNat / 2 ^ k ≤ 4294967295 / 2 ^ k := Nat.div_le_div_right (by omega)
      have p2 : 4294967295 / 2 ^ k ≤ 4294967295 / 2 ^ 1 := Nat.div_le_div_left (Nat.pow_le_pow_right (by omega) (by omega)) (by omega)
      have q := z_ofnat (x := (x.toUInt32 >>> (y.toUInt32 &&& Int32.toUInt32 31)).toInt32) (by rw [e]; omega)
      rw [kk]
      exact ⟨by rw [q]; exact Int.natCast_nonneg _, by rw [q, e]; exact Int.ofNat_le.mpr p⟩
    · exact z_in_full _
def z_i2b (a : zR) : zR := if -128 ≤ a.1 ∧ a.2 < 128 then a else (-128, 127)
theorem z_i2b_ok {a : zR} {x : Int32} (hx : z_in a x) : z_in (z_i2b a) (x.toInt8.toInt32) := by
  have e : (x.toInt8.toInt32).toInt = x.toInt.bmod (2 ^ 8) := by rw [Int8.toInt_toInt32, Int32.toInt_toInt8]
  unfold z_i2b
  split
  · rename_i h
    have : x.toInt.bmod (2 ^ 8) = x.toInt := by
      have := hx.1; have := hx.2
      apply Int.bmod_eq_of_le <;> omega
    exact ⟨by rw [e, this]; exact hx.1, by rw [e, this]; exact hx.2⟩
  · have h1 := Int.le_bmod (x := x.toInt) (m := 2 ^ 8) (by decide)
    have h2 := Int.bmod_lt (x := x.toInt) (m := 2 ^ 8) (by decide)
    exact ⟨by rw [e]; show (-128 : Int) ≤ _; omega, by rw [e]; show _ ≤ (127 : Int); omega⟩
def z_i2c (a : zR) : zR := if 0 ≤ a.1 ∧ a.2 ≤ 65535 then a else (0, 65535)
theorem z_i2c_ok {a : zR} {x : Int32} (hx : z_in a x) : z_in (z_i2c a) ((x.toUInt32 % 65536).toInt32) := by
  have e : ((x.toUInt32 % 65536).toInt32).toBitVec.toNat = x.toBitVec.toNat % 65536 := by
    show (x.toUInt32 % 65536).toNat = _
    rw [UInt32.toNat_mod]
    rfl
  have hl := Nat.mod_lt x.toBitVec.toNat (show 0 < 65536 by decide)
  have q := z_ofnat (x := (x.toUInt32 % 65536).toInt32) (by rw [e]; omega)
  rw [e] at q
  unfold z_i2c
  split
  · rename_i h
    have h0 : 0 ≤ x.toInt := by have := hx.1; omega
    have nx := z_nat h0
    have h1 := hx.1
    have h2 := hx.2
    have : x.toBitVec.toNat % 65536 = x.toBitVec.toNat := Nat.mod_eq_of_lt (by omega)
    rw [this] at q
    exact ⟨by rw [q]; omega, by rw [q]; omega⟩
  · exact ⟨by rw [q]; show (0 : Int) ≤ _; omega, by rw [q]; show _ ≤ (65535 : Int); omega⟩
end
section
/-! Abstract values, types of cells, abstract states, and what they say of the machine. -/
abbrev zV : Type := zR ⊕ (Nat ⊕ Nat)
abbrev zTp : Type := Nat → Option Nat
/-- an int in a range; a reference to a cell of a type; a known address (0: any long) -/
def z_v (OB : Nat → Nat) (T : zTp) (c : zV) (v : Value) : Prop := match c with
  | .inl r => ∃ x : Int32, v = .int x ∧ z_in r x
  | .inr (.inl t) => ∃ a : Nat, v = .ref a ∧ T a = some t
  | .inr (.inr 0) => ∃ x : Int64, v = .long x
  | .inr (.inr (k + 1)) => v = .ref (OB k)
def z_ile (a b : Int) : Bool := decide (a ≤ b)
theorem z_ile_ok {a b : Int} (h : z_ile a b = true) : a ≤ b := of_decide_eq_true h
theorem z_beq {a b : Nat} (h : Nat.beq a b = true) : a = b := Nat.eq_of_beq_eq_true h
def z_le (c d : zV) : Bool := match c, d with
  | .inl r, .inl q => z_ile q.1 r.1 && z_ile r.2 q.2
  | .inr (.inl t), .inr (.inl u) => Nat.beq t u
  | .inr (.inr k), .inr (.inr j) => Nat.beq k j
  | _, _ => false
theorem z_in_le {r q : zR} {x : Int32} (h1 : q.1 ≤ r.1) (h2 : r.2 ≤ q.2) (h : z_in r x) : z_in q x := ⟨Int.le_trans h1 h.1, Int.le_trans h.2 h2⟩
theorem z_le_ok {OB : Nat → Nat} {T : zTp} {c d : zV} {v : Value} (h : z_le c d = true) (hv : z_v OB T c v) : z_v OB T d v := by
  rcases c with r | t | k <;> rcases d with q | u | j <;> simp only [z_le, Bool.and_eq_true, Bool.false_eq_true] at h
  · obtain ⟨x, e, hx⟩ := hv
    exact ⟨x, e, z_in_le (z_ile_ok h.1) (z_ile_ok h.2) hx⟩
  · rw [← z_beq h]; exact hv
  · rw [← z_beq h]; exact hv
/-- an object: the place of its class, its fields; an array: the kind of its entries, its least and its greatest length, what stands in which places -/
abbrev zTy : Type := (Nat × List zV) ⊕ (Nat × (Nat × Nat) × List ((Nat × Nat) × zV))
def z_cell (OB : Nat → Nat) (D : va_G) (DA : Nat → ClassId) (cl : List vw_C) (T : zTp) (H : Heap) (a : Nat) (ty : zTy) : Prop := match ty with
  | .inl o => ∃ r, cl[o.1]? = some r ∧ o.2.length = r.2.2 ∧ ∃ V : Nat → Value, t_OB a (D.1 o.1) r.2.2 (D.2 o.1) H V ∧ ∀ k c, o.2[k]? = some c → z_v OB T c (V k)
  | .inr q => ∃ (n : Nat) (f : Nat → Value), H[a]? = some (arrV (DA q.1) n f) ∧ q.2.1.1 ≤ n ∧ n ≤ q.2.1.2 ∧ n < 2147483648 ∧ ∀ g ∈ q.2.2, ∀ j, j < n → g.1.1 ≤ j → j ≤ g.1.2 → z_v OB T g.2 (f j)
/-- a slot of a cell -/
def z_sl (H : Heap) (a k : Nat) (w : Value) : Prop := ∃ cell : Cell, H[a]? = some cell ∧ cell.vm = .none ∧ cell.slots[k]? = some w
abbrev zS : Type := List (Nat × Nat) × List Nat × Nat × List (Nat × zV) × List (Nat × Nat × Nat × Nat) × List (Nat × Nat × Nat) × List (Nat × Nat × Int) × List (Nat × Nat) × (Nat × Nat) × Nat
abbrev z_L (st : zS) := st.1
abbrev z_S (st : zS) := st.2.1
abbrev z_n (st : zS) := st.2.2.1
abbrev z_V (st : zS) := st.2.2.2.1
abbrev z_F (st : zS) := st.2.2.2.2.1
abbrev z_E (st : zS) := st.2.2.2.2.2.1
abbrev z_R (st : zS) := st.2.2.2.2.2.2.1
abbrev z_X (st : zS) := st.2.2.2.2.2.2.2.1
abbrev z_C (st : zS) := st.2.2.2.2.2.2.2.2.1
abbrev z_ph (st : zS) := st.2.2.2.2.2.2.2.2.2
def z_ls (nL : Nat) (ls : Array Slot) (env : List Value) (L : List (Nat × Nat)) : Prop := ∃ lv, lv_has ls nL lv ∧ (∀ q ∈ lv, q.2.category = 1) ∧ ∀ q ∈ L, ∃ v, env[q.2]? = some v ∧ (q.1, v) ∈ lv
def z_stk (env : List Value) : List Nat → List Value → Prop
  | [], k => k = []
  | i :: S, k => ∃ v k', k = v :: k' ∧ env[i]? = some v ∧ z_stk env S k'
def z_fv (OB : Nat → Nat) (T : zTp) (env : List Value) (V : List (Nat × zV)) : Prop := ∀ q ∈ V, ∃ v, env[q.1]? = some v ∧ z_v OB T q.2 v
def z_ff (D : va_G) (cl : List vw_C) (H : Heap) (env : List Value) (F : List (Nat × Nat × Nat × Nat)) : Prop := ∀ q ∈ F, ∃ a w r, env[q.1]? = some (.ref a) ∧ env[q.2.2.2]? = some w ∧ cl[q.2.1]? = some r ∧ q.2.2.1 < r.2.2 ∧ z_sl H a (D.2 q.2.1 q.2.2.1) w
def z_fe (H : Heap) (env : List Value) (E : List (Nat × Nat × Nat)) : Prop := ∀ q ∈ E, ∃ a x w, env[q.1]? = some (.ref a) ∧ env[q.2.1]? = some (.int x) ∧ 0 ≤ x.toInt ∧ env[q.2.2]? = some w ∧ z_sl H a x.toInt.toNat w
def z_fr (env : List Value) (R : List (Nat × Nat × Int)) : Prop := ∀ q ∈ R, ∃ x y, env[q.1]? = some (.int y) ∧ env[q.2.1]? = some (.int x) ∧ x.toInt + q.2.2 ≤ y.toInt
def z_fx (D : va_G) (cl : List vw_C) (T : zTp) (sz : Nat) (n0 : Nat) (raw : Option Nat) (H : Heap) (env : List Value) : List (Nat × Nat) → Prop
  | [] => True
  | q :: X => (∃ a, env[q.1]? = some (.ref a) ∧ T a = none ∧ (sz ≤ a ∧ (n0 ≤ a ∨ raw = some a)) ∧ (∃ r V, cl[q.2]? = some r ∧ t_OB a (D.1 q.2) r.2.2 (D.2 q.2) H V) ∧ ∀ p ∈ X, env[p.1]? ≠ some (.ref a)) ∧ z_fx D cl T sz n0 raw H env X
theorem z_app {env w : List Value} {i : Nat} {v : Value} (h : env[i]? = some v) : (env ++ w)[i]? = some v := by
  rw [List.getElem?_append_left (List.getElem?_eq_some_iff.mp h).1]; exact h
theorem z_ls_app {nL : Nat} {ls : Array Slot} {env w : List Value} {L : List (Nat × Nat)} (h : z_ls nL ls env L) : z_ls nL ls (env ++ w) L := by
  obtain ⟨lv, h1, h2, h3⟩ := h
  exact ⟨lv, h1, h2, fun q hq => by obtain ⟨v, e, m⟩ := h3 q hq; exact ⟨v, z_app e, m⟩⟩
theorem z_stk_app {env w : List Value} : ∀ {S : List Nat} {k : List Value}, z_stk env S k → z_stk (env ++ w) S k
  | [], _, h => h
  | _ :: _, _, ⟨v, k', e, h1, h2⟩ => ⟨v, k', e, z_app h1, z_stk_app h2⟩
theorem z_fv_app {OB : Nat → Nat} {T : zTp} {env w : List Value} {V : List (Nat × zV)} (h : z_fv OB T env V) : z_fv OB T (env ++ w) V := fun q hq => by
  obtain ⟨v, e, m⟩ := h q hq; exact ⟨v, z_app e, m⟩
theorem z_ff_app {D : va_G} {cl : List vw_C} {H : Heap} {env w : List Value} {F : List (Nat × Nat × Nat × Nat)} (h : z_ff D cl H env F) : z_ff D cl H (env ++ w) F := fun q hq => by
  obtain ⟨a, v, r, e1, e2, e3⟩ := h q hq; exact ⟨a, v, r, z_app e1, z_app e2, e3⟩
theorem z_fe_app {H : Heap} {env w : List Value} {E : List (Nat × Nat × Nat)} (h : z_fe H env E) : z_fe H (env ++ w) E := fun q hq => by
  obtain ⟨a, x, v, e1, e2, e3, e4, e5⟩ := h q hq; exact ⟨a, x, v, z_app e1, z_app e2, e3, z_app e4, e5⟩
theorem z_fr_app {env w : List Value} {R : List (Nat × Nat × Int)} (h : z_fr env R) : z_fr (env ++ w) R := fun q hq => by
  obtain ⟨x, y, e1, e2, e3⟩ := h q hq; exact ⟨x, y, z_app e1, z_app e2, e3⟩
theorem z_fx_in {D : va_G} {cl : List vw_C} {T : zTp} {sz n0 : Nat} {raw : Option Nat} {H : Heap} {env : List Value} : ∀ {X : List (Nat × Nat)}, z_fx D cl T sz n0 raw H env X → ∀ p ∈ X, ∃ a, env[p.1]? = some (.ref a) ∧ T a = none ∧ (sz ≤ a ∧ (n0 ≤ a ∨ raw = some a)) ∧ ∃ r V, cl[p.2]? = some r ∧ t_OB a (D.1 p.2) r.2.2 (D.2 p.2) H V
  | [], _, p, hp => absurd hp List.not_mem_nil
  | _ :: _, ⟨⟨a, h1, h2, h3, h4, _⟩, hr⟩, p, hp => by
    rcases List.mem_cons.mp hp with rfl | hp
    · exact ⟨a, h1, h2, h3, h4⟩
    · exact z_fx_in hr p hp
theorem z_fx_app {D : va_G} {cl : List vw_C} {T : zTp} {sz n0 : Nat} {raw : Option Nat} {H : Heap} {env w : List Value} : ∀ {X : List (Nat × Nat)}, z_fx D cl T sz n0 raw H env X → z_fx D cl T sz n0 raw H (env ++ w) X
  | [], h => h
  | _ :: _, ⟨⟨a, h1, h2, h3, h4, h5⟩, hr⟩ => by
    refine ⟨⟨a, z_app h1, h2, h3, h4, fun p hp => ?_⟩, z_fx_app hr⟩
    obtain ⟨b, hb, _⟩ := z_fx_in hr p hp
    rw [z_app hb, ← hb]
    exact h5 p hp
/-- the newest entry -/
def z_get : List (Nat × zV) → Nat → Option zV
  | [], _ => none
  | q :: V, i => cond (Nat.beq q.1 i) (some q.2) (z_get V i)
theorem z_get_mem : ∀ {V : List (Nat × zV)} {i : Nat} {c : zV}, z_get V i = some c → (i, c) ∈ V
  | [], _, _, h => by simp [z_get] at h
  | q :: V, i, c, h => by
    unfold z_get at h
    cases hb : Nat.beq q.1 i with
    | true =>
      rw [hb] at h
      cases h
      rw [← z_beq hb]
      exact List.mem_cons_self
    | false =>
      rw [hb] at h
      exact List.mem_cons_of_mem _ (z_get_mem h)
theorem z_get_ok {OB : Nat → Nat} {T : zTp} {env : List Value} {V : List (Nat × zV)} {i : Nat} {c : zV} (h : z_fv OB T env V) (e : z_get V i = some c) : ∃ v, env[i]? = some v ∧ z_v OB T c v := h _ (z_get_mem e)
def z_loc : List (Nat × Nat) → Nat → Option Nat
  | [], _ => none
  | q :: L, i => cond (Nat.beq q.1 i) (some q.2) (z_loc L i)
theorem z_loc_mem : ∀ {L : List (Nat × Nat)} {i d : Nat}, z_loc L i = some d → (i, d) ∈ L
  | [], _, _, h => by simp [z_loc] at h
  | q :: L, i, d, h => by
    unfold z_loc at h
    cases hb : Nat.beq q.1 i with
    | true =>
      rw [hb] at h
      cases h
      rw [← z_beq hb]
      exact List.mem_cons_self
    | false =>
      rw [hb] at h
      exact List.mem_cons_of_mem _ (z_loc_mem h)
/-- a lower bound of the difference y - x, by so many steps -/
def z_lbs (R0 : List (Nat × Nat × Int)) : Nat → Nat → Nat → Option Int
  | 0, y, x => cond (Nat.beq y x) (some 0) none
  | f + 1, y, x => cond (Nat.beq y x) (some 0) (R0.findSome? (fun q => cond (Nat.beq q.1 y) ((z_lbs R0 f q.2.1 x).map (fun c => c + q.2.2)) none))
theorem z_lbs_ok {env : List Value} {R : List (Nat × Nat × Int)} (h : z_fr env R) : ∀ {f y x : Nat} {c : Int} {vy : Int32}, z_lbs R f y x = some c → env[y]? = some (.int vy) → ∃ vx : Int32, env[x]? = some (.int vx) ∧ vx.toInt + c ≤ vy.toInt := by
  intro f
  induction f with
  | zero =>
    intro y x c vy e hy
    unfold z_lbs at e
    cases hb : Nat.beq y x with
    | true => rw [hb] at e; cases e; rw [← z_beq hb]; exact ⟨vy, hy, by omega⟩
    | false => rw [hb] at e; cases e
  | succ f ih =>
    intro y x c vy e hy
    unfold z_lbs at e
    cases hb : Nat.beq y x with
    | true => rw [hb] at e; cases e; rw [← z_beq hb]; exact ⟨vy, hy, by omega⟩
    | false =>
      rw [hb] at e
      obtain ⟨q, hq, hq2⟩ := List.exists_of_findSome?_eq_some e
      cases hb2 : Nat.beq q.1 y with
      | false => rw [hb2] at hq2; cases hq2
      | true =>
        rw [hb2] at hq2
        obtain ⟨xx, yy, e1, e2, e3⟩ := h q hq
        rw [z_beq hb2, hy] at e1
        cases e1
        cases hr : z_lbs R f q.2.1 x with
        | none => rw [hr] at hq2; cases hq2
        | some c2 =>
          rw [hr] at hq2
          have hc : c = c2 + q.2.2 := (Option.some.inj hq2).symm
          obtain ⟨vx, h1, h2⟩ := ih hr e2
          exact ⟨vx, h1, by omega⟩
end
section
/-! What an abstract state says; how it goes on. -/
def z_ph1 (PHI : List (List Nat)) (ph t : Nat) : Nat := match ph with
  | 0 => t
  | k + 1 => (PHI.getD k []).getD t t
/-- from 1000 on: one behind another -/
def z_phi (PHI : List (List Nat)) (ph t : Nat) : Nat := cond (Nat.blt ph 1000) (z_ph1 PHI ph t) (z_ph1 PHI (ph / 1000) (z_ph1 PHI (ph % 1000) t))
theorem z_phi_cmp {PHI : List (List Nat)} {p g t : Nat} (hp : Nat.blt p 1000 = true) (hg : Nat.blt g 1000 = true) (h0 : g ≠ 0) : z_phi PHI (g * 1000 + p) t = z_phi PHI g (z_phi PHI p t) := by
  have hp2 : p + 1 ≤ 1000 := Nat.le_of_ble_eq_true hp
  have e1 : (g * 1000 + p) / 1000 = g := by omega
  have e2 : (g * 1000 + p) % 1000 = p := by omega
  have e3 : Nat.blt (g * 1000 + p) 1000 = false := by
    cases h : Nat.blt (g * 1000 + p) 1000 with
    | false => rfl
    | true =>
      have : g * 1000 + p + 1 ≤ 1000 := Nat.le_of_ble_eq_true h
      omega
  unfold z_phi
  rw [e3, e1, e2, hp, hg]
  rfl
def z_ht (OB : Nat → Nat) (D : va_G) (DA : Nat → ClassId) (cl : List vw_C) (TY : List zTy) (T : zTp) (H : Heap) : Prop := ∀ a t, T a = some t → ∃ ty, TY[t]? = some ty ∧ z_cell OB D DA cl T H a ty
/-- final fields of typed objects are as they were -/
def z_fin (D : va_G) (cl : List vw_C) (TY : List zTy) (T0 : zTp) (H0 : Heap) (T : zTp) (H : Heap) : Prop := ∀ a t ci fl, T0 a = some t → TY[t]? = some (.inl (ci, fl)) → ∃ t' fl', T a = some t' ∧ TY[t']? = some (.inl (ci, fl')) ∧ ∀ r k w, cl[ci]? = some r → k < r.2.2 → (r.2.1 k).2.2.2 = true → z_sl H0 a (D.2 ci k) w → z_sl H a (D.2 ci k) w
theorem z_fin_rf {D : va_G} {cl : List vw_C} {TY : List zTy} {T : zTp} {H : Heap} : z_fin D cl TY T H T H := fun _ t _ fl h1 h2 => ⟨t, fl, h1, h2, fun _ _ _ _ _ _ h => h⟩
theorem z_fin_tr {D : va_G} {cl : List vw_C} {TY : List zTy} {T0 T1 T2 : zTp} {H0 H1 H2 : Heap} (h : z_fin D cl TY T0 H0 T1 H1) (h2 : z_fin D cl TY T1 H1 T2 H2) : z_fin D cl TY T0 H0 T2 H2 := fun a t ci fl e1 e2 => by
  obtain ⟨t1, fl1, g1, g2, g3⟩ := h a t ci fl e1 e2
  obtain ⟨t2, fl2, k1, k2, k3⟩ := h2 a t1 ci fl1 g1 g2
  exact ⟨t2, fl2, k1, k2, fun r k w x1 x2 x3 x4 => k3 r k w x1 x2 x3 (g3 r k w x1 x2 x3 x4)⟩
def z_mem (OB : Nat → Nat) (D : va_G) (DA : Nat → ClassId) (cl : List vw_C) (TY : List zTy) (PHI : List (List Nat)) (sz : Nat) (raw : Option Nat) (pu : Bool) (T0 : zTp) (H0 : Heap) (T : zTp) (H : Heap) (locs : List Loc) (ph : Nat) : Prop :=
  z_ht OB D DA cl TY T H ∧ ((∀ a t, T a = some t → sz ≤ a) ∧ (pu = true → H = H0 ∧ T = T0) ∧ z_fin D cl TY T0 H0 T H) ∧ (∀ a t, T0 a = some t → T a = some (z_phi PHI ph t)) ∧ (∀ q, q < H0.size → T0 q = none → raw ≠ some q → T q = none ∧ H[q]? = H0[q]?) ∧ va_S (fun q => sz ≤ q) H0 H locs
def z_sat (OB : Nat → Nat) (D : va_G) (DA : Nat → ClassId) (cl : List vw_C) (TY : List zTy) (PHI : List (List Nat)) (sz : Nat) (raw : Option Nat) (pu : Bool) (T0 : zTp) (H0 : Heap) (env0 : List Value) (nL : Nat) (st : zS) (T : zTp) (H : Heap) (locs : List Loc) (env : List Value) (ls : Array Slot) (stk : List Value) : Prop :=
  env.length = z_n st ∧ (∃ w, env = env0 ++ w) ∧ z_ls nL ls env (z_L st) ∧ z_stk env (z_S st) stk ∧ z_fv OB T env (z_V st) ∧ z_ff D cl H env (z_F st) ∧ z_fe H env (z_E st) ∧ z_fr env (z_R st) ∧ z_fx D cl T sz H0.size raw H env (z_X st) ∧ z_mem OB D DA cl TY PHI sz raw pu T0 H0 T H locs (z_ph st)
/-- a value comes on the stack, with what is known of it -/
def z_psh (st : zS) (S : List Nat) (c : zV) (rs : List (Nat × Nat × Int)) : zS := (z_L st, z_n st :: S, z_n st + 1, (z_n st, c) :: z_V st, z_F st, z_E st, rs ++ z_R st, z_X st, z_C st, z_ph st)
/-- another stack -/
def z_stS (st : zS) (S : List Nat) : zS := (z_L st, S, z_n st, z_V st, z_F st, z_E st, z_R st, z_X st, z_C st, z_ph st)
section ZSAT
variable {OB : Nat → Nat} {D : va_G} {DA : Nat → ClassId} {cl : List vw_C} {TY : List zTy} {PHI : List (List Nat)} {sz : Nat} {raw : Option Nat} {pu : Bool} {T0 : zTp} {H0 : Heap} {env0 : List Value} {nL : Nat} {st : zS} {T : zTp} {H : Heap} {locs : List Loc} {env : List Value} {ls : Array Slot} {stk : List Value}
theorem z_sat_psh (h : z_sat OB D DA cl TY PHI sz raw pu T0 H0 env0 nL st T H locs env ls stk) {S : List Nat} {k : List Value} (hS : z_stk env S k) {c : zV} {v : Value} (hv : z_v OB T c v) {rs : List (Nat × Nat × Int)} (hr : z_fr (env ++ [v]) rs) :
    z_sat OB D DA cl TY PHI sz raw pu T0 H0 env0 nL (z_psh st S c rs) T H locs (env ++ [v]) ls (v :: k) := by
  obtain ⟨h1, ⟨w, h2⟩, h3, h4, h5, h6, h7, h8, h9, h10⟩ := h
  have hn : (env ++ [v])[z_n st]? = some v := by rw [← h1]; simp
  refine ⟨?_, ⟨w ++ [v], ?_⟩, z_ls_app h3, ⟨v, k, rfl, hn, z_stk_app hS⟩, ?_, z_ff_app h6, z_fe_app h7, ?_, z_fx_app h9, h10⟩
  · show (env ++ [v]).length = z_n st + 1
    rw [List.length_append, h1]; rfl
  · rw [h2, List.append_assoc]
  · intro q hq
    rcases List.mem_cons.mp hq with rfl | hq
    · exact ⟨v, hn, hv⟩
    · exact z_fv_app h5 q hq
  · intro q hq
    rcases List.mem_append.mp hq with hq | hq
    · exact hr q hq
    · exact z_fr_app h8 q hq
theorem z_sat_stS (h : z_sat OB D DA cl TY PHI sz raw pu T0 H0 env0 nL st T H locs env ls stk) {S : List Nat} {k : List Value} (hS : z_stk env S k) :
    z_sat OB D DA cl TY PHI sz raw pu T0 H0 env0 nL (z_stS st S) T H locs env ls k := by
  obtain ⟨h1, h2, h3, h4, h5⟩ := h
  exact ⟨h1, h2, h3, hS, h5⟩
/-- more is known of values -/
def z_mor (st : zS) (S : List Nat) (vs : List (Nat × zV)) (rs : List (Nat × Nat × Int)) : zS := (z_L st, S, z_n st, vs ++ z_V st, z_F st, z_E st, rs ++ z_R st, z_X st, z_C st, z_ph st)
theorem z_sat_mor (h : z_sat OB D DA cl TY PHI sz raw pu T0 H0 env0 nL st T H locs env ls stk) {S : List Nat} {k : List Value} (hS : z_stk env S k) {vs : List (Nat × zV)} (hv : z_fv OB T env vs) {rs : List (Nat × Nat × Int)} (hr : z_fr env rs) :
    z_sat OB D DA cl TY PHI sz raw pu T0 H0 env0 nL (z_mor st S vs rs) T H locs env ls k := by
  obtain ⟨h1, h2, h3, h4, h5, h6, h7, h8, h9, h10⟩ := h
  refine ⟨h1, h2, h3, hS, fun q hq => ?_, h6, h7, fun q hq => ?_, h9, h10⟩
  · rcases List.mem_append.mp hq with hq | hq
    · exact hv q hq
    · exact h5 q hq
  · rcases List.mem_append.mp hq with hq | hq
    · exact hr q hq
    · exact h8 q hq
/-- a local is set -/
def z_stL (st : zS) (S : List Nat) (i d : Nat) : zS := ((i, d) :: (z_L st).filter (fun q => !(Nat.beq q.1 i)), S, z_n st, z_V st, z_F st, z_E st, z_R st, z_X st, z_C st, z_ph st)
theorem z_ls_set {L : List (Nat × Nat)} {i d : Nat} {v : Value} {lv : List (Nat × Value)} (hc : ∀ q ∈ lv, q.2.category = 1) (h3 : ∀ q ∈ L, ∃ v, env[q.2]? = some v ∧ (q.1, v) ∈ lv) (hd : env[d]? = some v) (hv : v.category = 1) {ls' : Array Slot} (hl : lv_has ls' nL ((i, v) :: lv.filter (fun q => !(q.1 == i) && !(q.1 + 1 == i && q.2.category == 2)))) :
    z_ls nL ls' env ((i, d) :: L.filter (fun q => !(Nat.beq q.1 i))) := by
  refine ⟨_, hl, fun q hq => ?_, fun q hq => ?_⟩
  · rcases List.mem_cons.mp hq with rfl | hq
    · exact hv
    · exact hc q (List.mem_filter.mp hq).1
  · rcases List.mem_cons.mp hq with rfl | hq
    · exact ⟨v, hd, List.mem_cons_self⟩
    · obtain ⟨hq1, hq2⟩ := List.mem_filter.mp hq
      obtain ⟨w, e, m⟩ := h3 q hq1
      refine ⟨w, e, List.mem_cons_of_mem _ (List.mem_filter.mpr ⟨m, ?_⟩)⟩
      have hne : ¬ q.1 = i := by
        intro hh
        rw [hh] at hq2
        simp at hq2
      have hcat := hc _ m
      simp [hne, hcat]
theorem z_sat_stL (h : z_sat OB D DA cl TY PHI sz raw pu T0 H0 env0 nL st T H locs env ls stk) {S : List Nat} {k : List Value} (hS : z_stk env S k) {i d : Nat} {ls' : Array Slot} (hl : z_ls nL ls' env ((i, d) :: (z_L st).filter (fun q => !(Nat.beq q.1 i)))) :
    z_sat OB D DA cl TY PHI sz raw pu T0 H0 env0 nL (z_stL st S i d) T H locs env ls' k := by
  obtain ⟨h1, h2, h3, h4, h5⟩ := h
  exact ⟨h1, h2, hl, hS, h5⟩
end ZSAT
end
section
/-! Instructions that leave the heap as it is. -/
def z_Good (p : Program) (l : Launch) (e : Env) (R : Room) (s : State) (m : MethodId) (args : Array Value) (below : List Frame) (meth : Method) (c : Code) (Q : State → Prop) (OB : Nat → Nat) (D : va_G) (DA : Nat → ClassId) (cl : List vw_C) (TY : List zTy) (PHI : List (List Nat)) (sz : Nat) (raw : Option Nat) (pu : Bool) (T0 : zTp) (H0 : Heap) (env0 : List Value) (nL : Nat) (good : Nat → zS → Prop) : Prop :=
  ∀ pc st, good pc st ↔ ∀ T H locs env ls stk, z_sat OB D DA cl TY PHI sz raw pu T0 H0 env0 nL st T H locs env ls stk → W p l e R s m args below meth c H locs (z_C st).1 (z_C st).2 Q (F0 m pc ls stk)
def z_noov (lo hi : Int) : Bool := z_ile (-2147483648) lo && z_ile hi 2147483647
def z_iconst (st : zS) (n : Int) : Option zS := cond (z_noov n n) (some (z_psh st (z_S st) (.inl (n, n)) [])) none
def z_bip (st : zS) (n : Int) : Option zS := cond (z_ile (-128) n && z_ile n 127) (some (z_psh st (z_S st) (.inl (n, n)) [])) none
def z_sip (st : zS) (n : Int) : Option zS := cond (z_ile (-32768) n && z_ile n 32767) (some (z_psh st (z_S st) (.inl (n, n)) [])) none
def z_iload (st : zS) (i : Nat) : Option zS := match z_loc (z_L st) i with
  | some d => (match z_get (z_V st) d with
    | some (.inl _) => some (z_stS st (d :: z_S st))
    | _ => none)
  | none => none
/-- a reference -/
def z_isr (st : zS) (d : Nat) : Bool := match z_get (z_V st) d with
  | some (.inr (.inl _)) => true
  | some (.inr (.inr (_ + 1))) => true
  | some _ => false
  | none => (z_X st).any (fun q => Nat.beq q.1 d)
def z_isi (st : zS) (d : Nat) : Bool := match z_get (z_V st) d with
  | some (.inl _) => true
  | _ => false
def z_aload (st : zS) (i : Nat) : Option zS := match z_loc (z_L st) i with
  | some d => cond (z_isr st d) (some (z_stS st (d :: z_S st))) none
  | none => none
def z_istore (nL : Nat) (st : zS) (i : Nat) : Option zS := match z_S st with
  | d :: S => cond (z_isi st d && Nat.blt i nL) (some (z_stL st S i d)) none
  | _ => none
def z_astore (nL : Nat) (st : zS) (i : Nat) : Option zS := match z_S st with
  | d :: S => cond (z_isr st d && Nat.blt i nL) (some (z_stL st S i d)) none
  | _ => none
def z_shc (st : zS) (a : zR) (x : Nat) (k : Int) : List (Nat × Nat × Int) := cond (z_noov (a.1 + k) (a.2 + k)) [(z_n st, x, k), (x, z_n st, -k)] []
def z_iinc (nL : Nat) (st : zS) (i : Nat) (k : Int) : Option zS := match z_loc (z_L st) i with
  | some d => (match z_get (z_V st) d with
    | some (.inl a) => cond (z_noov k k && Nat.blt i nL) (some (z_stL (z_psh st (z_S st) (.inl (z_add a (k, k))) (z_shc st a d k)) (z_S st) i (z_n st))) none
    | _ => none)
  | none => none
def z_bin (f : zR → zR → zR) (st : zS) : Option zS := match z_S st with
  | y :: x :: S => (match z_get (z_V st) x, z_get (z_V st) y with
    | some (.inl a), some (.inl b) => some (z_psh st S (.inl (f a b)) [])
    | _, _ => none)
  | _ => none
/-- as z_bin, where the second is not 0 -/
def z_bin0 (f : zR → zR → zR) (st : zS) : Option zS := match z_S st with
  | y :: x :: S => (match z_get (z_V st) x, z_get (z_V st) y with
    | some (.inl a), some (.inl b) => cond (z_ile 1 b.1 || z_ile b.2 (-1)) (some (z_psh st S (.inl (f a b)) [])) none
    | _, _ => none)
  | _ => none
def z_iadd (st : zS) : Option zS := match z_S st with
  | y :: x :: S => (match z_get (z_V st) x, z_get (z_V st) y with
    | some (.inl a), some (.inl b) => some (z_psh st S (.inl (z_add a b)) (cond (z_ile b.2 b.1) (z_shc st a x b.1) (cond (z_ile a.2 a.1) (z_shc st b y a.1) [])))
    | _, _ => none)
  | _ => none
def z_lb1 (R : List (Nat × Nat × Int)) (x y : Nat) (lo : Int) : Int := match z_lbs R 2 x y with
  | some k => z_max lo k
  | none => lo
def z_isub (st : zS) : Option zS := match z_S st with
  | y :: x :: S => (match z_get (z_V st) x, z_get (z_V st) y with
    | some (.inl a), some (.inl b) => some (z_psh st S (.inl (cond (z_noov (a.1 - b.2) (a.2 - b.1)) (z_lb1 (z_R st) x y (a.1 - b.2), -(z_lb1 (z_R st) y x (b.1 - a.2))) (z_sub a b))) (cond (z_ile b.2 b.1) (z_shc st a x (-b.1)) []))
    | _, _ => none)
  | _ => none
def z_un (f : zR → zR) (st : zS) : Option zS := match z_S st with
  | x :: S => (match z_get (z_V st) x with
    | some (.inl a) => some (z_psh st S (.inl (f a)) [])
    | _ => none)
  | _ => none
def z_dup (st : zS) : Option zS := match z_S st with
  | x :: S => cond (z_isi st x || z_isr st x) (some (z_stS st (x :: x :: S))) none
  | _ => none
def z_dupx1 (st : zS) : Option zS := match z_S st with
  | x :: y :: S => cond ((z_isi st x || z_isr st x) && (z_isi st y || z_isr st y)) (some (z_stS st (x :: y :: x :: S))) none
  | _ => none
def z_dup2 (st : zS) : Option zS := match z_S st with
  | x :: y :: S => cond ((z_isi st x || z_isr st x) && (z_isi st y || z_isr st y)) (some (z_stS st (x :: y :: x :: y :: S))) none
  | _ => none
def z_pop (st : zS) : Option zS := match z_S st with
  | x :: S => cond (z_isi st x || z_isr st x) (some (z_stS st S)) none
  | _ => none
section ZPURE
variable {p : Program} {l : Launch} {e : Env} {R : Room} {s : State} {m : MethodId} {args : Array Value} {below : List Frame} {meth : Method} {c : Code} {Q : State → Prop} {cc : ByteArray} {pc : Nat}
variable {OB : Nat → Nat} {D : va_G} {DA : Nat → ClassId} {cl : List vw_C} {TY : List zTy} {PHI : List (List Nat)} {sz : Nat} {raw : Option Nat} {pu : Bool} {T0 : zTp} {H0 : Heap} {env0 : List Value} {nL : Nat} {st st' : zS} {good : Nat → zS → Prop}
theorem z_noov_ok {a b : Int} (h : z_noov a b = true) : -2147483648 ≤ a ∧ b ≤ 2147483647 := by
  unfold z_noov at h
  rw [Bool.and_eq_true] at h
  exact ⟨z_ile_ok h.1, z_ile_ok h.2⟩
theorem z_cond {α : Type} {b : Bool} {x : α} {y : α} (h : cond b (some x) none = some y) : b = true ∧ x = y := by
  cases b with
  | true => exact ⟨rfl, Option.some.inj h⟩
  | false => cases h
theorem z_r_iconst (hg : z_Good p l e R s m args below meth c Q OB D DA cl TY PHI sz raw pu T0 H0 env0 nL good) (hx : p.tables.exec = Jvm.exec) (hb : c.code = cc) {n : Int} (hd : decode cc pc = .ok (.iconst n, 1)) (h : z_iconst st n = some st') (k : good (pc + 1) st') : good pc st := by
  obtain ⟨h1, rfl⟩ := z_cond h
  obtain ⟨q1, q2⟩ := z_noov_ok h1
  refine (hg _ _).mpr fun T H locs env ls stk hs => ?_
  have hv : (Int32.ofInt n).toInt = n := Int32.toInt_ofInt_of_le (by omega) (by omega)
  exact lv_iconst hx hb hd rfl ((hg _ _).mp k T H locs _ ls _ (z_sat_psh hs hs.2.2.2.1 (c := .inl (n, n)) (v := .int (Int32.ofInt n)) ⟨_, rfl, by rw [z_in, hv]; exact ⟨Int.le_refl _, Int.le_refl _⟩⟩ (fun q hq => absurd hq List.not_mem_nil)))
theorem z_r_bip (hg : z_Good p l e R s m args below meth c Q OB D DA cl TY PHI sz raw pu T0 H0 env0 nL good) (hx : p.tables.exec = Jvm.exec) (hb : c.code = cc) {n : Int} (hd : decode cc pc = .ok (.bipush n, 2)) (h : z_bip st n = some st') (k : good (pc + 2) st') : good pc st := by
  obtain ⟨h1, rfl⟩ := z_cond h
  rw [Bool.and_eq_true] at h1
  have q1 := z_ile_ok h1.1
  have q2 := z_ile_ok h1.2
  refine (hg _ _).mpr fun T H locs env ls stk hs => ?_
  have hv : ((Int8.ofInt n).toInt32).toInt = n := by rw [Int8.toInt_toInt32]; exact Int8.toInt_ofInt_of_le (by omega) (by omega)
  exact lv_bipush hx hb hd rfl ((hg _ _).mp k T H locs _ ls _ (z_sat_psh hs hs.2.2.2.1 (c := .inl (n, n)) (v := .int ((Int8.ofInt n).toInt32)) ⟨_, rfl, by rw [z_in, hv]; exact ⟨Int.le_refl _, Int.le_refl _⟩⟩ (fun q hq => absurd hq List.not_mem_nil)))
theorem z_r_sip (hg : z_Good p l e R s m args below meth c Q OB D DA cl TY PHI sz raw pu T0 H0 env0 nL good) (hx : p.tables.exec = Jvm.exec) (hb : c.code = cc) {n : Int} (hd : decode cc pc = .ok (.sipush n, 3)) (h : z_sip st n = some st') (k : good (pc + 3) st') : good pc st := by
  obtain ⟨h1, rfl⟩ := z_cond h
  rw [Bool.and_eq_true] at h1
  have q1 := z_ile_ok h1.1
  have q2 := z_ile_ok h1.2
  refine (hg _ _).mpr fun T H locs env ls stk hs => ?_
  have hv : ((Int16.ofInt n).toInt32).toInt = n := by rw [Int16.toInt_toInt32]; exact Int16.toInt_ofInt_of_le (by omega) (by omega)
  exact lv_sipush hx hb hd rfl ((hg _ _).mp k T H locs _ ls _ (z_sat_psh hs hs.2.2.2.1 (c := .inl (n, n)) (v := .int ((Int16.ofInt n).toInt32)) ⟨_, rfl, by rw [z_in, hv]; exact ⟨Int.le_refl _, Int.le_refl _⟩⟩ (fun q hq => absurd hq List.not_mem_nil)))
theorem z_r_ldc (hg : z_Good p l e R s m args below meth c Q OB D DA cl TY PHI sz raw pu T0 H0 env0 nL good) (hx : p.tables.exec = Jvm.exec) (hb : c.code = cc) {own : String} {i : Nat} {v : Int32} (hown : s.vm.findClass own = some m.cls) (hc : (Jvm.Cond.constant own i v).before args s = true) (hd : decode cc pc = .ok (.ldc i, 2)) (h : z_iconst st v.toInt = some st') (k : good (pc + 2) st') : good pc st := by
  obtain ⟨h1, rfl⟩ := z_cond h
  refine (hg _ _).mpr fun T H locs env ls stk hs => ?_
  exact lv_ldc hx hb hown hc hd ((hg _ _).mp k T H locs _ ls _ (z_sat_psh hs hs.2.2.2.1 (c := .inl (v.toInt, v.toInt)) (v := .int v) ⟨_, rfl, Int.le_refl _, Int.le_refl _⟩ (fun q hq => absurd hq List.not_mem_nil)))
theorem z_r_ldcw (hg : z_Good p l e R s m args below meth c Q OB D DA cl TY PHI sz raw pu T0 H0 env0 nL good) (hx : p.tables.exec = Jvm.exec) (hb : c.code = cc) {own : String} {i : Nat} {v : Int32} (hown : s.vm.findClass own = some m.cls) (hc : (Jvm.Cond.constant own i v).before args s = true) (hd : decode cc pc = .ok (.ldc_w i, 3)) (h : z_iconst st v.toInt = some st') (k : good (pc + 3) st') : good pc st := by
  obtain ⟨h1, rfl⟩ := z_cond h
  refine (hg _ _).mpr fun T H locs env ls stk hs => ?_
  exact lv_ldcw hx hb hown hc hd ((hg _ _).mp k T H locs _ ls _ (z_sat_psh hs hs.2.2.2.1 (c := .inl (v.toInt, v.toInt)) (v := .int v) ⟨_, rfl, Int.le_refl _, Int.le_refl _⟩ (fun q hq => absurd hq List.not_mem_nil)))
theorem z_iload_ok {T : zTp} {H : Heap} {locs : List Loc} {env : List Value} {ls : Array Slot} {stk : List Value} {i : Nat} (h : z_iload st i = some st') (hs : z_sat OB D DA cl TY PHI sz raw pu T0 H0 env0 nL st T H locs env ls stk) : ∃ x : Int32, ls[i]? = some (.val (.int x)) ∧ z_C st' = z_C st ∧ z_sat OB D DA cl TY PHI sz raw pu T0 H0 env0 nL st' T H locs env ls (.int x :: stk) := by
  unfold z_iload at h
  split at h
  · rename_i d hd
    split at h
    · rename_i a ha
      cases h
      obtain ⟨v, e1, x, rfl, hx⟩ := z_get_ok hs.2.2.2.2.1 ha
      obtain ⟨lv, g1, g2, g3⟩ := hs.2.2.1
      obtain ⟨v', e2, hm⟩ := g3 _ (z_loc_mem hd)
      have : v' = .int x := Option.some.inj (e2.symm.trans e1)
      subst this
      exact ⟨x, g1.2.2 _ hm, rfl, z_sat_stS hs ⟨_, _, rfl, e1, hs.2.2.2.1⟩⟩
    · cases h
  · cases h
theorem z_isr_ok {T : zTp} {H : Heap} {locs : List Loc} {env : List Value} {ls : Array Slot} {stk : List Value} {d : Nat} (h : z_isr st d = true) (hs : z_sat OB D DA cl TY PHI sz raw pu T0 H0 env0 nL st T H locs env ls stk) : ∃ a : Nat, env[d]? = some (.ref a) := by
  unfold z_isr at h
  split at h
  · rename_i t ht
    obtain ⟨v, e1, a, rfl, ha⟩ := z_get_ok hs.2.2.2.2.1 ht
    exact ⟨a, e1⟩
  · rename_i k hk
    obtain ⟨v, e1, h1⟩ := z_get_ok hs.2.2.2.2.1 hk
    have h1 : v = .ref (OB (k + 1 - 1)) := h1
    exact ⟨_, by rw [e1, h1]⟩
  · cases h
  · obtain ⟨q, hq, hq2⟩ := List.any_eq_true.mp h
    obtain ⟨a, h1, _⟩ := z_fx_in hs.2.2.2.2.2.2.2.2.1 q hq
    rw [z_beq hq2] at h1
    exact ⟨a, h1⟩
theorem z_isi_ok {T : zTp} {H : Heap} {locs : List Loc} {env : List Value} {ls : Array Slot} {stk : List Value} {d : Nat} (h : z_isi st d = true) (hs : z_sat OB D DA cl TY PHI sz raw pu T0 H0 env0 nL st T H locs env ls stk) : ∃ x : Int32, env[d]? = some (.int x) := by
  unfold z_isi at h
  split at h
  · rename_i t ht
    obtain ⟨v, e1, x, rfl, hx⟩ := z_get_ok hs.2.2.2.2.1 ht
    exact ⟨x, e1⟩
  · cases h
theorem z_aload_ok {T : zTp} {H : Heap} {locs : List Loc} {env : List Value} {ls : Array Slot} {stk : List Value} {i : Nat} (h : z_aload st i = some st') (hs : z_sat OB D DA cl TY PHI sz raw pu T0 H0 env0 nL st T H locs env ls stk) : ∃ x : Nat, ls[i]? = some (.val (.ref x)) ∧ z_C st' = z_C st ∧ z_sat OB D DA cl TY PHI sz raw pu T0 H0 env0 nL st' T H locs env ls (.ref x :: stk) := by
  unfold z_aload at h
  split at h
  · rename_i d hd
    obtain ⟨h1, rfl⟩ := z_cond h
    obtain ⟨x, e1⟩ := z_isr_ok h1 hs
    obtain ⟨lv, g1, g2, g3⟩ := hs.2.2.1
    obtain ⟨v', e2, hm⟩ := g3 _ (z_loc_mem hd)
    have : v' = .ref x := Option.some.inj (e2.symm.trans e1)
    subst this
    exact ⟨x, g1.2.2 _ hm, rfl, z_sat_stS hs ⟨_, _, rfl, e1, hs.2.2.2.1⟩⟩
  · cases h
end ZPURE
end
section
/-! Rows of more instructions that leave the heap as it is. -/
section ZPURE2
variable {p : Program} {l : Launch} {e : Env} {R : Room} {s : State} {m : MethodId} {args : Array Value} {below : List Frame} {meth : Method} {c : Code} {Q : State → Prop} {cc : ByteArray} {pc : Nat}
variable {OB : Nat → Nat} {D : va_G} {DA : Nat → ClassId} {cl : List vw_C} {TY : List zTy} {PHI : List (List Nat)} {sz : Nat} {raw : Option Nat} {pu : Bool} {T0 : zTp} {H0 : Heap} {env0 : List Value} {nL : Nat} {st st' : zS} {good : Nat → zS → Prop}
theorem z_vi {OB : Nat → Nat} {T : zTp} {r : zR} {x : Int32} (h : z_in r x) : z_v OB T (.inl r) (.int x) := ⟨_, rfl, h⟩
theorem z_r_iload (hg : z_Good p l e R s m args below meth c Q OB D DA cl TY PHI sz raw pu T0 H0 env0 nL good) (hx : p.tables.exec = Jvm.exec) (hb : c.code = cc) {i : Nat} (hd : decode cc pc = .ok (.iload i, 2)) (h : z_iload st i = some st') (k : good (pc + 2) st') : good pc st := by
  refine (hg _ _).mpr fun T H locs env ls stk hs => ?_
  obtain ⟨x, h1, h2, h3⟩ := z_iload_ok h hs
  have kk := (hg _ _).mp k T H locs _ ls _ h3
  rw [h2] at kk
  exact lv_iload hx hb hd h1 kk
theorem z_r_iload_n (hg : z_Good p l e R s m args below meth c Q OB D DA cl TY PHI sz raw pu T0 H0 env0 nL good) (hx : p.tables.exec = Jvm.exec) (hb : c.code = cc) {i : Fin 4} (hd : decode cc pc = .ok (.iload_n i, 1)) (h : z_iload st i.val = some st') (k : good (pc + 1) st') : good pc st := by
  refine (hg _ _).mpr fun T H locs env ls stk hs => ?_
  obtain ⟨x, h1, h2, h3⟩ := z_iload_ok h hs
  have kk := (hg _ _).mp k T H locs _ ls _ h3
  rw [h2] at kk
  exact lv_iload_n hx hb hd rfl h1 kk
theorem z_r_aload (hg : z_Good p l e R s m args below meth c Q OB D DA cl TY PHI sz raw pu T0 H0 env0 nL good) (hx : p.tables.exec = Jvm.exec) (hb : c.code = cc) {i : Nat} (hd : decode cc pc = .ok (.aload i, 2)) (h : z_aload st i = some st') (k : good (pc + 2) st') : good pc st := by
  refine (hg _ _).mpr fun T H locs env ls stk hs => ?_
  obtain ⟨x, h1, h2, h3⟩ := z_aload_ok h hs
  have kk := (hg _ _).mp k T H locs _ ls _ h3
  rw [h2] at kk
  exact lv_aload hx hb hd h1 kk
theorem z_r_aload_n (hg : z_Good p l e R s m args below meth c Q OB D DA cl TY PHI sz raw pu T0 H0 env0 nL good) (hx : p.tables.exec = Jvm.exec) (hb : c.code = cc) {i : Fin 4} (hd : decode cc pc = .ok (.aload_n i, 1)) (h : z_aload st i.val = some st') (k : good (pc + 1) st') : good pc st := by
  refine (hg _ _).mpr fun T H locs env ls stk hs => ?_
  obtain ⟨x, h1, h2, h3⟩ := z_aload_ok h hs
  have kk := (hg _ _).mp k T H locs _ ls _ h3
  rw [h2] at kk
  exact lv_aload_n hx hb hd rfl h1 kk
theorem z_stk_cons {env : List Value} {d : Nat} {S : List Nat} {stk : List Value} {st : zS} (hS : z_S st = d :: S) (h : z_stk env (z_S st) stk) : ∃ v k, stk = v :: k ∧ env[d]? = some v ∧ z_stk env S k := by
  rw [hS] at h; exact h
theorem z_blt {a b : Nat} (h : Nat.blt a b = true) : a < b := by
  unfold Nat.blt at h
  exact Nat.le_of_ble_eq_true h
theorem z_istore_ok {T : zTp} {H : Heap} {locs : List Loc} {env : List Value} {ls : Array Slot} {stk : List Value} {i : Nat} (h : z_istore nL st i = some st') (hs : z_sat OB D DA cl TY PHI sz raw pu T0 H0 env0 nL st T H locs env ls stk) : ∃ (x : Int32) (k : List Value) (lv : List (Nat × Value)), stk = .int x :: k ∧ i < nL ∧ lv_has ls nL lv ∧ z_C st' = z_C st ∧ ∀ ls', lv_has ls' nL ((i, .int x) :: lv.filter (fun q => !(q.1 == i) && !(q.1 + 1 == i && q.2.category == 2))) → z_sat OB D DA cl TY PHI sz raw pu T0 H0 env0 nL st' T H locs env ls' k := by
  unfold z_istore at h
  split at h
  · rename_i d S hS
    obtain ⟨h1, rfl⟩ := z_cond h
    rw [Bool.and_eq_true] at h1
    obtain ⟨x, e1⟩ := z_isi_ok h1.1 hs
    obtain ⟨v, k, rfl, e2, hk⟩ := z_stk_cons hS hs.2.2.2.1
    have : v = .int x := Option.some.inj (e2.symm.trans e1)
    subst this
    obtain ⟨lv, g1, g2, g3⟩ := hs.2.2.1
    exact ⟨x, k, lv, rfl, z_blt h1.2, g1, rfl, fun ls' hl => z_sat_stL hs hk (z_ls_set g2 g3 e1 rfl hl)⟩
  · cases h
theorem z_astore_ok {T : zTp} {H : Heap} {locs : List Loc} {env : List Value} {ls : Array Slot} {stk : List Value} {i : Nat} (h : z_astore nL st i = some st') (hs : z_sat OB D DA cl TY PHI sz raw pu T0 H0 env0 nL st T H locs env ls stk) : ∃ (x : Nat) (k : List Value) (lv : List (Nat × Value)), stk = .ref x :: k ∧ i < nL ∧ lv_has ls nL lv ∧ z_C st' = z_C st ∧ ∀ ls', lv_has ls' nL ((i, .ref x) :: lv.filter (fun q => !(q.1 == i) && !(q.1 + 1 == i && q.2.category == 2))) → z_sat OB D DA cl TY PHI sz raw pu T0 H0 env0 nL st' T H locs env ls' k := by
  unfold z_astore at h
  split at h
  · rename_i d S hS
    obtain ⟨h1, rfl⟩ := z_cond h
    rw [Bool.and_eq_true] at h1
    obtain ⟨x, e1⟩ := z_isr_ok h1.1 hs
    obtain ⟨v, k, rfl, e2, hk⟩ := z_stk_cons hS hs.2.2.2.1
    have : v = .ref x := Option.some.inj (e2.symm.trans e1)
    subst this
    obtain ⟨lv, g1, g2, g3⟩ := hs.2.2.1
    exact ⟨x, k, lv, rfl, z_blt h1.2, g1, rfl, fun ls' hl => z_sat_stL hs hk (z_ls_set g2 g3 e1 rfl hl)⟩
  · cases h
theorem z_r_istore (hg : z_Good p l e R s m args below meth c Q OB D DA cl TY PHI sz raw pu T0 H0 env0 nL good) (hx : p.tables.exec = Jvm.exec) (hb : c.code = cc) {i : Nat} (hd : decode cc pc = .ok (.istore i, 2)) (h : z_istore nL st i = some st') (k : good (pc + 2) st') : good pc st := by
  refine (hg _ _).mpr fun T H locs env ls stk hs => ?_
  obtain ⟨x, k2, lv, rfl, h1, h2, h3, h4⟩ := z_istore_ok h hs
  refine lv_istore hx hb hd h2 h1 rfl fun ls' hl => ?_
  have kk := (hg _ _).mp k T H locs _ ls' _ (h4 ls' hl)
  rwa [h3] at kk
theorem z_r_istore_n (hg : z_Good p l e R s m args below meth c Q OB D DA cl TY PHI sz raw pu T0 H0 env0 nL good) (hx : p.tables.exec = Jvm.exec) (hb : c.code = cc) {i : Fin 4} (hd : decode cc pc = .ok (.istore_n i, 1)) (h : z_istore nL st i.val = some st') (k : good (pc + 1) st') : good pc st := by
  refine (hg _ _).mpr fun T H locs env ls stk hs => ?_
  obtain ⟨x, k2, lv, rfl, h1, h2, h3, h4⟩ := z_istore_ok h hs
  refine lv_istore_n hx hb hd rfl h2 h1 rfl fun ls' hl => ?_
  have kk := (hg _ _).mp k T H locs _ ls' _ (h4 ls' hl)
  rwa [h3] at kk
theorem z_r_astore (hg : z_Good p l e R s m args below meth c Q OB D DA cl TY PHI sz raw pu T0 H0 env0 nL good) (hx : p.tables.exec = Jvm.exec) (hb : c.code = cc) {i : Nat} (hd : decode cc pc = .ok (.astore i, 2)) (h : z_astore nL st i = some st') (k : good (pc + 2) st') : good pc st := by
  refine (hg _ _).mpr fun T H locs env ls stk hs => ?_
  obtain ⟨x, k2, lv, rfl, h1, h2, h3, h4⟩ := z_astore_ok h hs
  refine lv_astore hx hb hd h2 h1 rfl fun ls' hl => ?_
  have kk := (hg _ _).mp k T H locs _ ls' _ (h4 ls' hl)
  rwa [h3] at kk
theorem z_r_astore_n (hg : z_Good p l e R s m args below meth c Q OB D DA cl TY PHI sz raw pu T0 H0 env0 nL good) (hx : p.tables.exec = Jvm.exec) (hb : c.code = cc) {i : Fin 4} (hd : decode cc pc = .ok (.astore_n i, 1)) (h : z_astore nL st i.val = some st') (k : good (pc + 1) st') : good pc st := by
  refine (hg _ _).mpr fun T H locs env ls stk hs => ?_
  obtain ⟨x, k2, lv, rfl, h1, h2, h3, h4⟩ := z_astore_ok h hs
  refine lv_astore_n hx hb hd rfl h2 h1 rfl fun ls' hl => ?_
  have kk := (hg _ _).mp k T H locs _ ls' _ (h4 ls' hl)
  rwa [h3] at kk
/-- a sum with a constant, where nothing runs over -/
theorem z_shc_ok {env : List Value} {a : zR} {d : Nat} {k : Int} {x v : Int32} (hn : env.length = z_n st) (hd : env[d]? = some (.int x)) (hx : z_in a x) (hv : v.toInt = (x.toInt + k).bmod (2 ^ 32)) : z_fr (env ++ [.int v]) (z_shc st a d k) := by
  unfold z_shc
  cases hc : z_noov (a.1 + k) (a.2 + k) with
  | false => exact fun q hq => absurd hq List.not_mem_nil
  | true =>
    obtain ⟨h1, h2⟩ := z_noov_ok hc
    have e : v.toInt = x.toInt + k := by
      rw [hv]; exact z_bmod (by have := hx.1; omega) (by have := hx.2; omega)
    have e1 : (env ++ [.int v])[z_n st]? = some (.int v) := by rw [← hn]; simp
    intro q hq
    rcases List.mem_cons.mp hq with rfl | hq
    · exact ⟨x, v, e1, z_app hd, by show x.toInt + k ≤ _; omega⟩
    · rw [List.mem_singleton.mp hq]
      exact ⟨v, x, z_app hd, e1, by show v.toInt + -k ≤ _; omega⟩
theorem z_r_iinc (hg : z_Good p l e R s m args below meth c Q OB D DA cl TY PHI sz raw pu T0 H0 env0 nL good) (hx : p.tables.exec = Jvm.exec) (hb : c.code = cc) {i : Nat} {n : Int} (hd : decode cc pc = .ok (.iinc i n, 3)) (h : z_iinc nL st i n = some st') (k : good (pc + 3) st') : good pc st := by
  refine (hg _ _).mpr fun T H locs env ls stk hs => ?_
  unfold z_iinc at h
  split at h
  · rename_i d hdl
    split at h
    · rename_i a ha
      obtain ⟨h1, rfl⟩ := z_cond h
      rw [Bool.and_eq_true] at h1
      obtain ⟨v, e1, x, rfl, hxa⟩ := z_get_ok hs.2.2.2.2.1 ha
      obtain ⟨lv, g1, g2, g3⟩ := hs.2.2.1
      obtain ⟨v', e2, hm⟩ := g3 _ (z_loc_mem hdl)
      have : v' = .int x := Option.some.inj (e2.symm.trans e1)
      subst this
      obtain ⟨j, hj⟩ := List.getElem?_of_mem hm
      have hn2 := z_noov_ok h1.1
      have hv : (Int32.ofInt n).toInt = n := Int32.toInt_ofInt_of_le (by omega) (by omega)
      have hin : z_in (z_add a (n, n)) (x + Int32.ofInt n) := z_add_ok hxa ⟨by rw [hv]; exact Int.le_refl _, by rw [hv]; exact Int.le_refl _⟩
      refine lv_iinc hx hb hd g1 hj rfl (z_blt h1.2) rfl fun ls' hl => ?_
      have hp := z_sat_psh hs hs.2.2.2.1 (c := .inl (z_add a (n, n))) (v := .int (x + Int32.ofInt n)) ⟨_, rfl, hin⟩ (rs := z_shc st a d n) (z_shc_ok hs.1 e1 hxa (by rw [Int32.toInt_add, hv]))
      refine (hg _ _).mp k T H locs _ ls' _ (z_sat_stL hp (z_stk_app hs.2.2.2.1) ?_)
      exact z_ls_set g2 (fun q hq => by obtain ⟨w, ew, mw⟩ := g3 q hq; exact ⟨w, z_app ew, mw⟩) (by rw [← hs.1]; simp) rfl hl
    · cases h
  · cases h
theorem z_bin_ok {T : zTp} {H : Heap} {locs : List Loc} {env : List Value} {ls : Array Slot} {stk : List Value} {f : zR → zR → zR} {op : Int32 → Int32 → Int32} (hf : ∀ a b x y, z_in a x → z_in b y → z_in (f a b) (op x y)) (h : z_bin f st = some st') (hs : z_sat OB D DA cl TY PHI sz raw pu T0 H0 env0 nL st T H locs env ls stk) : ∃ (x y : Int32) (k : List Value), stk = .int y :: .int x :: k ∧ z_C st' = z_C st ∧ z_sat OB D DA cl TY PHI sz raw pu T0 H0 env0 nL st' T H locs (env ++ [.int (op x y)]) ls (.int (op x y) :: k) := by
  unfold z_bin at h
  split at h
  · rename_i yy xx S hS
    split at h
    · rename_i a b ha hb2
      cases h
      obtain ⟨vy, k, rfl, e1, hk⟩ := z_stk_cons hS hs.2.2.2.1
      obtain ⟨vx, k2, rfl, e2, hk2⟩ := hk
      obtain ⟨v, e3, x, rfl, hxa⟩ := z_get_ok hs.2.2.2.2.1 ha
      obtain ⟨w, e4, y, rfl, hyb⟩ := z_get_ok hs.2.2.2.2.1 hb2
      have q1 : vx = .int x := Option.some.inj (e2.symm.trans e3)
      have q2 : vy = .int y := Option.some.inj (e1.symm.trans e4)
      subst q1; subst q2
      exact ⟨x, y, k2, rfl, rfl, z_sat_psh hs hk2 (z_vi (hf _ _ _ _ hxa hyb)) (fun q hq => absurd hq List.not_mem_nil)⟩
    · cases h
  · cases h
theorem z_bin0_ok {T : zTp} {H : Heap} {locs : List Loc} {env : List Value} {ls : Array Slot} {stk : List Value} {f : zR → zR → zR} {op : Int32 → Int32 → Int32} (hf : ∀ a b x y, z_in a x → z_in b y → z_in (f a b) (op x y)) (h : z_bin0 f st = some st') (hs : z_sat OB D DA cl TY PHI sz raw pu T0 H0 env0 nL st T H locs env ls stk) : ∃ (x y : Int32) (k : List Value), stk = .int y :: .int x :: k ∧ ¬ y = 0 ∧ z_C st' = z_C st ∧ z_sat OB D DA cl TY PHI sz raw pu T0 H0 env0 nL st' T H locs (env ++ [.int (op x y)]) ls (.int (op x y) :: k) := by
  unfold z_bin0 at h
  split at h
  · rename_i yy xx S hS
    split at h
    · rename_i a b ha hb2
      obtain ⟨h1, rfl⟩ := z_cond h
      obtain ⟨vy, k, rfl, e1, hk⟩ := z_stk_cons hS hs.2.2.2.1
      obtain ⟨vx, k2, rfl, e2, hk2⟩ := hk
      obtain ⟨v, e3, x, rfl, hxa⟩ := z_get_ok hs.2.2.2.2.1 ha
      obtain ⟨w, e4, y, rfl, hyb⟩ := z_get_ok hs.2.2.2.2.1 hb2
      have q1 : vx = .int x := Option.some.inj (e2.symm.trans e3)
      have q2 : vy = .int y := Option.some.inj (e1.symm.trans e4)
      subst q1; subst q2
      refine ⟨x, y, k2, rfl, ?_, rfl, z_sat_psh hs hk2 (z_vi (hf _ _ _ _ hxa hyb)) (fun q hq => absurd hq List.not_mem_nil)⟩
      intro hy0
      have hz : y.toInt = 0 := by rw [hy0]; rfl
      rw [Bool.or_eq_true] at h1
      rcases h1 with h1 | h1
      · have := z_ile_ok h1; have := hyb.1; omega
      · have := z_ile_ok h1; have := hyb.2; omega
    · cases h
  · cases h
theorem z_un_ok {T : zTp} {H : Heap} {locs : List Loc} {env : List Value} {ls : Array Slot} {stk : List Value} {f : zR → zR} {op : Int32 → Int32} (hf : ∀ a x, z_in a x → z_in (f a) (op x)) (h : z_un f st = some st') (hs : z_sat OB D DA cl TY PHI sz raw pu T0 H0 env0 nL st T H locs env ls stk) : ∃ (x : Int32) (k : List Value), stk = .int x :: k ∧ z_C st' = z_C st ∧ z_sat OB D DA cl TY PHI sz raw pu T0 H0 env0 nL st' T H locs (env ++ [.int (op x)]) ls (.int (op x) :: k) := by
  unfold z_un at h
  split at h
  · rename_i xx S hS
    split at h
    · rename_i a ha
      cases h
      obtain ⟨vx, k2, rfl, e2, hk2⟩ := z_stk_cons hS hs.2.2.2.1
      obtain ⟨v, e3, x, rfl, hxa⟩ := z_get_ok hs.2.2.2.2.1 ha
      have q1 : vx = .int x := Option.some.inj (e2.symm.trans e3)
      subst q1
      exact ⟨x, k2, rfl, rfl, z_sat_psh hs hk2 (z_vi (hf _ _ hxa)) (fun q hq => absurd hq List.not_mem_nil)⟩
    · cases h
  · cases h
theorem z_iadd_ok {T : zTp} {H : Heap} {locs : List Loc} {env : List Value} {ls : Array Slot} {stk : List Value} (h : z_iadd st = some st') (hs : z_sat OB D DA cl TY PHI sz raw pu T0 H0 env0 nL st T H locs env ls stk) : ∃ (x y : Int32) (k : List Value), stk = .int y :: .int x :: k ∧ z_C st' = z_C st ∧ z_sat OB D DA cl TY PHI sz raw pu T0 H0 env0 nL st' T H locs (env ++ [.int (x + y)]) ls (.int (x + y) :: k) := by
  unfold z_iadd at h
  split at h
  · rename_i yy xx S hS
    split at h
    · rename_i a b ha hb2
      cases h
      obtain ⟨vy, k, rfl, e1, hk⟩ := z_stk_cons hS hs.2.2.2.1
      obtain ⟨vx, k2, rfl, e2, hk2⟩ := hk
      obtain ⟨v, e3, x, rfl, hxa⟩ := z_get_ok hs.2.2.2.2.1 ha
      obtain ⟨w, e4, y, rfl, hyb⟩ := z_get_ok hs.2.2.2.2.1 hb2
      have q1 : vx = .int x := Option.some.inj (e2.symm.trans e3)
      have q2 : vy = .int y := Option.some.inj (e1.symm.trans e4)
      subst q1; subst q2
      refine ⟨x, y, k2, rfl, rfl, z_sat_psh hs hk2 (z_vi (z_add_ok hxa hyb)) ?_⟩
      cases hc : z_ile b.2 b.1 with
      | true =>
        have hy : y.toInt = b.1 := by have := z_ile_ok hc; have := hyb.1; have := hyb.2; omega
        exact z_shc_ok hs.1 e3 hxa (by rw [Int32.toInt_add, hy])
      | false =>
        cases hc2 : z_ile a.2 a.1 with
        | true =>
          have hy : x.toInt = a.1 := by have := z_ile_ok hc2; have := hxa.1; have := hxa.2; omega
          exact z_shc_ok hs.1 e4 hyb (by rw [Int32.toInt_add, hy, Int.add_comm])
        | false => exact fun q hq => absurd hq List.not_mem_nil
    · cases h
  · cases h
theorem z_lb1_ok {env : List Value} {Rr : List (Nat × Nat × Int)} (hr : z_fr env Rr) {x y : Nat} {vx vy : Int32} {lo : Int} (h1 : env[x]? = some (.int vx)) (h2 : env[y]? = some (.int vy)) (hlo : lo ≤ vx.toInt - vy.toInt) : z_lb1 Rr x y lo ≤ vx.toInt - vy.toInt := by
  unfold z_lb1
  split
  · rename_i k hk
    obtain ⟨v, e1, e2⟩ := z_lbs_ok hr hk h1
    have : v = vy := by have := e1.symm.trans h2; cases this; rfl
    subst this
    unfold z_max
    split <;> omega
  · exact hlo
theorem z_isub_ok {T : zTp} {H : Heap} {locs : List Loc} {env : List Value} {ls : Array Slot} {stk : List Value} (h : z_isub st = some st') (hs : z_sat OB D DA cl TY PHI sz raw pu T0 H0 env0 nL st T H locs env ls stk) : ∃ (x y : Int32) (k : List Value), stk = .int y :: .int x :: k ∧ z_C st' = z_C st ∧ z_sat OB D DA cl TY PHI sz raw pu T0 H0 env0 nL st' T H locs (env ++ [.int (x - y)]) ls (.int (x - y) :: k) := by
  unfold z_isub at h
  split at h
  · rename_i yy xx S hS
    split at h
    · rename_i a b ha hb2
      cases h
      obtain ⟨vy, k, rfl, e1, hk⟩ := z_stk_cons hS hs.2.2.2.1
      obtain ⟨vx, k2, rfl, e2, hk2⟩ := hk
      obtain ⟨v, e3, x, rfl, hxa⟩ := z_get_ok hs.2.2.2.2.1 ha
      obtain ⟨w, e4, y, rfl, hyb⟩ := z_get_ok hs.2.2.2.2.1 hb2
      have q1 : vx = .int x := Option.some.inj (e2.symm.trans e3)
      have q2 : vy = .int y := Option.some.inj (e1.symm.trans e4)
      subst q1; subst q2
      have hr := hs.2.2.2.2.2.2.2.1
      refine ⟨x, y, k2, rfl, rfl, z_sat_psh hs hk2 (z_vi ?_) ?_⟩
      · cases hc : z_noov (a.1 - b.2) (a.2 - b.1) with
        | false => exact z_sub_ok hxa hyb
        | true =>
          obtain ⟨n1, n2⟩ := z_noov_ok hc
          obtain ⟨a1, a2⟩ := hxa
          obtain ⟨b1, b2⟩ := hyb
          have ev : (x - y).toInt = x.toInt - y.toInt := by rw [Int32.toInt_sub]; exact z_bmod (by omega) (by omega)
          have l1 := z_lb1_ok hr e3 e4 (lo := a.1 - b.2) (by omega)
          have l2 := z_lb1_ok hr e4 e3 (lo := b.1 - a.2) (by omega)
          exact ⟨by rw [ev]; exact l1, by rw [ev]; show _ ≤ -(z_lb1 (z_R st) yy xx (b.1 - a.2)); omega⟩
      · cases hc : z_ile b.2 b.1 with
        | true =>
          have hy : y.toInt = b.1 := by have := z_ile_ok hc; have := hyb.1; have := hyb.2; omega
          exact z_shc_ok hs.1 e3 hxa (by rw [Int32.toInt_sub, hy]; rfl)
        | false => exact fun q hq => absurd hq List.not_mem_nil
    · cases h
  · cases h
theorem z_cat_ok {T : zTp} {H : Heap} {locs : List Loc} {env : List Value} {ls : Array Slot} {stk : List Value} {d : Nat} {v : Value} (h : (z_isi st d || z_isr st d) = true) (hs : z_sat OB D DA cl TY PHI sz raw pu T0 H0 env0 nL st T H locs env ls stk) (hv : env[d]? = some v) : v.category = 1 := by
  rw [Bool.or_eq_true] at h
  rcases h with h | h
  · obtain ⟨x, e1⟩ := z_isi_ok h hs
    rw [hv] at e1; cases e1; rfl
  · obtain ⟨x, e1⟩ := z_isr_ok h hs
    rw [hv] at e1; cases e1; rfl
theorem z_r_dup (hg : z_Good p l e R s m args below meth c Q OB D DA cl TY PHI sz raw pu T0 H0 env0 nL good) (hx : p.tables.exec = Jvm.exec) (hb : c.code = cc) (hd : decode cc pc = .ok (.dup, 1)) (h : z_dup st = some st') (k : good (pc + 1) st') : good pc st := by
  refine (hg _ _).mpr fun T H locs env ls stk hs => ?_
  unfold z_dup at h
  split at h
  · rename_i x S hS
    obtain ⟨h1, rfl⟩ := z_cond h
    obtain ⟨v, k2, rfl, e1, hk⟩ := z_stk_cons hS hs.2.2.2.1
    exact lv_dup hx hb hd (z_cat_ok h1 hs e1) ((hg _ _).mp k T H locs _ ls _ (z_sat_stS hs ⟨_, _, rfl, e1, _, _, rfl, e1, hk⟩))
  · cases h
theorem z_r_dupx1 (hg : z_Good p l e R s m args below meth c Q OB D DA cl TY PHI sz raw pu T0 H0 env0 nL good) (hx : p.tables.exec = Jvm.exec) (hb : c.code = cc) (hd : decode cc pc = .ok (.dup_x1, 1)) (h : z_dupx1 st = some st') (k : good (pc + 1) st') : good pc st := by
  refine (hg _ _).mpr fun T H locs env ls stk hs => ?_
  unfold z_dupx1 at h
  split at h
  · rename_i x y S hS
    obtain ⟨h1, rfl⟩ := z_cond h
    rw [Bool.and_eq_true] at h1
    obtain ⟨v, k2, rfl, e1, w, k3, rfl, e2, hk⟩ := z_stk_cons hS hs.2.2.2.1
    exact lv_dup_x1 hx hb hd (z_cat_ok h1.1 hs e1) (z_cat_ok h1.2 hs e2) ((hg _ _).mp k T H locs _ ls _ (z_sat_stS hs ⟨_, _, rfl, e1, _, _, rfl, e2, _, _, rfl, e1, hk⟩))
  · cases h
theorem z_r_dup2 (hg : z_Good p l e R s m args below meth c Q OB D DA cl TY PHI sz raw pu T0 H0 env0 nL good) (hx : p.tables.exec = Jvm.exec) (hb : c.code = cc) (hd : decode cc pc = .ok (.dup2, 1)) (h : z_dup2 st = some st') (k : good (pc + 1) st') : good pc st := by
  refine (hg _ _).mpr fun T H locs env ls stk hs => ?_
  unfold z_dup2 at h
  split at h
  · rename_i x y S hS
    obtain ⟨h1, rfl⟩ := z_cond h
    rw [Bool.and_eq_true] at h1
    obtain ⟨v, k2, rfl, e1, w, k3, rfl, e2, hk⟩ := z_stk_cons hS hs.2.2.2.1
    exact lv_dup2_11 hx hb hd (z_cat_ok h1.1 hs e1) (z_cat_ok h1.2 hs e2) ((hg _ _).mp k T H locs _ ls _ (z_sat_stS hs ⟨_, _, rfl, e1, _, _, rfl, e2, _, _, rfl, e1, _, _, rfl, e2, hk⟩))
  · cases h
theorem z_r_pop (hg : z_Good p l e R s m args below meth c Q OB D DA cl TY PHI sz raw pu T0 H0 env0 nL good) (hx : p.tables.exec = Jvm.exec) (hb : c.code = cc) (hd : decode cc pc = .ok (.pop, 1)) (h : z_pop st = some st') (k : good (pc + 1) st') : good pc st := by
  refine (hg _ _).mpr fun T H locs env ls stk hs => ?_
  unfold z_pop at h
  split at h
  · rename_i x S hS
    obtain ⟨h1, rfl⟩ := z_cond h
    obtain ⟨v, k2, rfl, e1, hk⟩ := z_stk_cons hS hs.2.2.2.1
    exact lv_pop hx hb hd (z_cat_ok h1 hs e1) ((hg _ _).mp k T H locs _ ls _ (z_sat_stS hs hk))
  · cases h
end ZPURE2
end
section
/-! Branches. -/
abbrev zC : Type := Jvm.ClassFile.Cond
def z_rel (k : zC) (x y : Int) : Prop := match k with
  | .eq => x = y
  | .ne => x ≠ y
  | .lt => x < y
  | .ge => y ≤ x
  | .gt => y < x
  | .le => x ≤ y
def z_not (k : zC) : zC := match k with
  | .eq => .ne
  | .ne => .eq
  | .lt => .ge
  | .ge => .lt
  | .gt => .le
  | .le => .gt
def z_swp (k : zC) : zC := match k with
  | .eq => .eq
  | .ne => .ne
  | .lt => .gt
  | .ge => .le
  | .gt => .lt
  | .le => .ge
theorem z_rel_not {k : zC} {x y : Int} (h : ¬ z_rel k x y) : z_rel (z_not k) x y := by
  cases k <;> simp only [z_rel, z_not, ne_eq, Classical.not_not] at * <;> omega
theorem z_rel_swp {k : zC} {x y : Int} (h : z_rel k x y) : z_rel (z_swp k) y x := by
  cases k <;> simp only [z_rel, z_swp, ne_eq] at * <;> omega
def z_rf (k : zC) (a b : zR) : zR := match k with
  | .eq => (z_max a.1 b.1, z_min a.2 b.2)
  | .ne => (cond (z_ile b.2 b.1 && z_ile a.1 b.1 && z_ile b.1 a.1) (a.1 + 1) a.1, cond (z_ile b.2 b.1 && z_ile a.2 b.1 && z_ile b.1 a.2) (a.2 - 1) a.2)
  | .lt => (a.1, z_min a.2 (b.2 - 1))
  | .ge => (z_max a.1 b.1, a.2)
  | .gt => (z_max a.1 (b.1 + 1), a.2)
  | .le => (a.1, z_min a.2 b.2)
theorem z_min_ge {a b x : Int} (h1 : x ≤ a) (h2 : x ≤ b) : x ≤ z_min a b := by unfold z_min; split <;> omega
theorem z_max_le {a b x : Int} (h1 : a ≤ x) (h2 : b ≤ x) : z_max a b ≤ x := by unfold z_max; split <;> omega
theorem z_rf_ok {k : zC} {a b : zR} {x y : Int32} (hx : z_in a x) (hy : z_in b y) (h : z_rel k x.toInt y.toInt) : z_in (z_rf k a b) x := by
  obtain ⟨x1, x2⟩ := hx
  obtain ⟨y1, y2⟩ := hy
  cases k <;> simp only [z_rel] at h
  · exact ⟨z_max_le x1 (by omega), z_min_ge x2 (by omega)⟩
  · refine ⟨?_, ?_⟩
    · show cond _ _ _ ≤ _
      cases hc : z_ile b.2 b.1 && z_ile a.1 b.1 && z_ile b.1 a.1 with
      | false => exact x1
      | true =>
        simp only [Bool.and_eq_true] at hc
        have := z_ile_ok hc.1.1; have := z_ile_ok hc.1.2; have := z_ile_ok hc.2
        show a.1 + 1 ≤ _
        omega
    · show _ ≤ cond _ _ _
      cases hc : z_ile b.2 b.1 && z_ile a.2 b.1 && z_ile b.1 a.2 with
      | false => exact x2
      | true =>
        simp only [Bool.and_eq_true] at hc
        have := z_ile_ok hc.1.1; have := z_ile_ok hc.1.2; have := z_ile_ok hc.2
        show _ ≤ a.2 - 1
        omega
  · exact ⟨x1, z_min_ge x2 (by omega)⟩
  · exact ⟨z_max_le x1 (by omega), x2⟩
  · exact ⟨z_max_le x1 (by omega), x2⟩
  · exact ⟨x1, z_min_ge x2 (by omega)⟩
def z_rr (k : zC) (x y : Nat) : List (Nat × Nat × Int) := match k with
  | .eq => [(x, y, 0), (y, x, 0)]
  | .ne => []
  | .lt => [(y, x, 1)]
  | .ge => [(x, y, 0)]
  | .gt => [(x, y, 1)]
  | .le => [(y, x, 0)]
theorem z_rr_ok {env : List Value} {k : zC} {x y : Nat} {vx vy : Int32} (h1 : env[x]? = some (.int vx)) (h2 : env[y]? = some (.int vy)) (h : z_rel k vx.toInt vy.toInt) : z_fr env (z_rr k x y) := by
  intro q hq
  cases k <;> simp only [z_rr, z_rel, List.mem_cons, List.not_mem_nil, or_false, false_or] at hq h
  · rcases hq with rfl | rfl
    · exact ⟨vy, vx, h1, h2, by show vy.toInt + 0 ≤ _; omega⟩
    · exact ⟨vx, vy, h2, h1, by show vx.toInt + 0 ≤ _; omega⟩
  · subst hq; exact ⟨vx, vy, h2, h1, by show vx.toInt + 1 ≤ _; omega⟩
  · subst hq; exact ⟨vy, vx, h1, h2, by show vy.toInt + 0 ≤ _; omega⟩
  · subst hq; exact ⟨vy, vx, h1, h2, by show vy.toInt + 1 ≤ _; omega⟩
  · subst hq; exact ⟨vx, vy, h2, h1, by show vx.toInt + 0 ≤ _; omega⟩
/-- known to be above by so much at least -/
def z_kn (R : List (Nat × Nat × Int)) (x y : Nat) (n : Int) : Bool := match z_lbs R 2 x y with
  | some k => z_ile n k
  | none => false
theorem z_kn_ok {env : List Value} {Rr : List (Nat × Nat × Int)} (hr : z_fr env Rr) {x y : Nat} {vx vy : Int32} {n : Int} (h1 : env[x]? = some (.int vx)) (h2 : env[y]? = some (.int vy)) (h : z_kn Rr x y n = true) : vy.toInt + n ≤ vx.toInt := by
  unfold z_kn at h
  split at h
  · rename_i k hk
    obtain ⟨v, e1, e2⟩ := z_lbs_ok hr hk h1
    have : v = vy := by have := e1.symm.trans h2; cases this; rfl
    subst this
    have := z_ile_ok h
    omega
  · cases h
/-- the same, by more steps -/
def z_kx (R : List (Nat × Nat × Int)) (x y : Nat) (n : Int) : Bool := match z_lbs R 6 x y with
  | some k => z_ile n k
  | none => false
theorem z_kx_ok {env : List Value} {Rr : List (Nat × Nat × Int)} (hr : z_fr env Rr) {x y : Nat} {vx vy : Int32} {n : Int} (h1 : env[x]? = some (.int vx)) (h2 : env[y]? = some (.int vy)) (h : z_kx Rr x y n = true) : vy.toInt + n ≤ vx.toInt := by
  unfold z_kx at h
  split at h
  · rename_i k hk
    obtain ⟨v, e1, e2⟩ := z_lbs_ok hr hk h1
    have : v = vy := by have := e1.symm.trans h2; cases this; rfl
    subst this
    have := z_ile_ok h
    omega
  · cases h
/-- the relation can't be -/
def z_bad (R : List (Nat × Nat × Int)) (k : zC) (x y : Nat) : Bool := match k with
  | .eq => z_kn R x y 1 || z_kn R y x 1
  | .ne => z_kn R x y 0 && z_kn R y x 0
  | .lt => z_kn R x y 0
  | .ge => z_kn R y x 1
  | .gt => z_kn R y x 0
  | .le => z_kn R x y 1
theorem z_bad_ok {env : List Value} {Rr : List (Nat × Nat × Int)} (hr : z_fr env Rr) {k : zC} {x y : Nat} {vx vy : Int32} (h1 : env[x]? = some (.int vx)) (h2 : env[y]? = some (.int vy)) (h : z_bad Rr k x y = true) (hk : z_rel k vx.toInt vy.toInt) : False := by
  cases k <;> simp only [z_bad, z_rel, Bool.or_eq_true, Bool.and_eq_true] at h hk
  · rcases h with h | h
    · have := z_kn_ok hr h1 h2 h; omega
    · have := z_kn_ok hr h2 h1 h; omega
  · have := z_kn_ok hr h1 h2 h.1; have := z_kn_ok hr h2 h1 h.2; omega
  · have := z_kn_ok hr h1 h2 h; omega
  · have := z_kn_ok hr h2 h1 h; omega
  · have := z_kn_ok hr h2 h1 h; omega
  · have := z_kn_ok hr h1 h2 h; omega
/-- where a branch goes if the relation holds; nowhere if it can't -/
def z_bri (st : zS) (k : zC) (x y : Nat) (a b : zR) (S : List Nat) (pc : Nat) : List (Nat × zS) :=
  cond (z_ile (z_rf k a b).1 (z_rf k a b).2 && z_ile (z_rf (z_swp k) b a).1 (z_rf (z_swp k) b a).2 && !(z_bad (z_R st) k x y)) [(pc, z_mor st S [(x, .inl (z_rf k a b)), (y, .inl (z_rf (z_swp k) b a))] (z_rr k x y))] []
def z_brz (st : zS) (k : zC) (x : Nat) (a : zR) (S : List Nat) (pc : Nat) : List (Nat × zS) :=
  cond (z_ile (z_rf k a (0, 0)).1 (z_rf k a (0, 0)).2) [(pc, z_mor st S [(x, .inl (z_rf k a (0, 0)))] [])] []
def z_to (pc : Nat) (off : Int) : Option Nat := cond (z_ile 0 ((pc : Int) + off)) (some ((pc : Int) + off).toNat) none
theorem z_to_ok {pc : Nat} {off : Int} {t : Nat} (h : z_to pc off = some t) : (pc : Int) + off = (t : Int) := by
  obtain ⟨h1, rfl⟩ := z_cond h
  have := z_ile_ok h1
  omega
def z_icmp (st : zS) (pc : Nat) (k : zC) (off : Int) : Option (List (Nat × zS)) := match z_S st with
  | y :: x :: S => (match z_get (z_V st) x, z_get (z_V st) y, z_to pc off with
    | some (.inl a), some (.inl b), some t => some (z_bri st k x y a b S t ++ z_bri st (z_not k) x y a b S (pc + 3))
    | _, _, _ => none)
  | _ => none
def z_icnd (st : zS) (pc : Nat) (k : zC) (off : Int) : Option (List (Nat × zS)) := match z_S st with
  | x :: S => (match z_get (z_V st) x, z_to pc off with
    | some (.inl a), some t => some (z_brz st k x a S t ++ z_brz st (z_not k) x a S (pc + 3))
    | _, _ => none)
  | _ => none
section ZJUMPS
variable {p : Program} {l : Launch} {e : Env} {R : Room} {s : State} {m : MethodId} {args : Array Value} {below : List Frame} {meth : Method} {c : Code} {Q : State → Prop} {cc : ByteArray} {pc : Nat}
variable {OB : Nat → Nat} {D : va_G} {DA : Nat → ClassId} {cl : List vw_C} {TY : List zTy} {PHI : List (List Nat)} {sz : Nat} {raw : Option Nat} {pu : Bool} {T0 : zTp} {H0 : Heap} {env0 : List Value} {nL : Nat} {st st' : zS} {good : Nat → zS → Prop}
variable {H : Heap} {locs : List Loc} {cells slots : Nat} {ls : Array Slot} {rest : List Value}
theorem z_icmp_row (hx : p.tables.exec = Jvm.exec) (hb : c.code = cc) {x y : Int32} {k : zC} {off : Int} {t : Nat} (hd : decode cc pc = .ok (.if_icmp k off, 3)) (ht : (pc : Int) + off = (t : Int))
    (kt : z_rel k x.toInt y.toInt → W p l e R s m args below meth c H locs cells slots Q (F0 m t ls rest)) (kf : z_rel (z_not k) x.toInt y.toInt → W p l e R s m args below meth c H locs cells slots Q (F0 m (pc + 3) ls rest)) : W p l e R s m args below meth c H locs cells slots Q (F0 m pc ls (.int y :: .int x :: rest)) := by
  cases k
  · exact lv_icmp_eq hx hb hd ht (fun h => kt (by rw [h]; rfl)) (fun h => kf (fun q => h (Int32.toInt_inj.mp q)))
  · exact lv_icmp_ne hx hb hd ht (fun h => kt (fun q => h (Int32.toInt_inj.mp q))) (fun h => kf (by rw [h]; rfl))
  · exact lv_icmp_lt hx hb hd ht (fun h => kt (Int32.lt_iff_toInt_lt.mp h)) (fun h => kf (Int.not_lt.mp (fun q => h (Int32.lt_iff_toInt_lt.mpr q))))
  · exact lv_icmp_ge hx hb hd ht (fun h => kt (Int32.le_iff_toInt_le.mp h)) (fun h => kf (Int.not_le.mp (fun q => h (Int32.le_iff_toInt_le.mpr q))))
  · exact lv_icmp_gt hx hb hd ht (fun h => kt (Int32.lt_iff_toInt_lt.mp h)) (fun h => kf (Int.not_lt.mp (fun q => h (Int32.lt_iff_toInt_lt.mpr q))))
  · exact lv_icmp_le hx hb hd ht (fun h => kt (Int32.le_iff_toInt_le.mp h)) (fun h => kf (Int.not_le.mp (fun q => h (Int32.le_iff_toInt_le.mpr q))))
theorem z_icnd_row (hx : p.tables.exec = Jvm.exec) (hb : c.code = cc) {x : Int32} {k : zC} {off : Int} {t : Nat} (hd : decode cc pc = .ok (.ifCond k off, 3)) (ht : (pc : Int) + off = (t : Int))
    (kt : z_rel k x.toInt 0 → W p l e R s m args below meth c H locs cells slots Q (F0 m t ls rest)) (kf : z_rel (z_not k) x.toInt 0 → W p l e R s m args below meth c H locs cells slots Q (F0 m (pc + 3) ls rest)) : W p l e R s m args below meth c H locs cells slots Q (F0 m pc ls (.int x :: rest)) := by
  have z0 : (0 : Int32).toInt = 0 := rfl
  cases k
  · exact lv_if_eq hx hb hd ht (fun h => kt (by rw [h]; rfl)) (fun h => kf (fun q => h (Int32.toInt_inj.mp (q.trans z0.symm))))
  · exact lv_if_ne hx hb hd ht (fun h => kt (fun q => h (Int32.toInt_inj.mp (q.trans z0.symm)))) (fun h => kf (by rw [h]; rfl))
  · exact lv_if_lt hx hb hd ht (fun h => kt (Int32.lt_iff_toInt_lt.mp h)) (fun h => kf (Int.not_lt.mp (fun q => h (Int32.lt_iff_toInt_lt.mpr q))))
  · exact lv_if_ge hx hb hd ht (fun h => kt (Int32.le_iff_toInt_le.mp h)) (fun h => kf (Int.not_le.mp (fun q => h (Int32.le_iff_toInt_le.mpr q))))
  · exact lv_if_gt hx hb hd ht (fun h => kt (Int32.lt_iff_toInt_lt.mp h)) (fun h => kf (Int.not_lt.mp (fun q => h (Int32.lt_iff_toInt_lt.mpr q))))
  · exact lv_if_le hx hb hd ht (fun h => kt (Int32.le_iff_toInt_le.mp h)) (fun h => kf (Int.not_le.mp (fun q => h (Int32.le_iff_toInt_le.mpr q))))
theorem z_bri_ok (hg : z_Good p l e R s m args below meth c Q OB D DA cl TY PHI sz raw pu T0 H0 env0 nL good) {T : zTp} {env : List Value} {stk : List Value} (hs : z_sat OB D DA cl TY PHI sz raw pu T0 H0 env0 nL st T H locs env ls stk) {k : zC} {x y : Nat} {vx vy : Int32} {a b : zR} {S : List Nat} {t : Nat} {kk : List Value} (e1 : env[x]? = some (.int vx)) (e2 : env[y]? = some (.int vy)) (hxa : z_in a vx) (hyb : z_in b vy) (hS : z_stk env S kk)
    (hall : ∀ q ∈ z_bri st k x y a b S t, good q.1 q.2) (hr : z_rel k vx.toInt vy.toInt) : W p l e R s m args below meth c H locs (z_C st).1 (z_C st).2 Q (F0 m t ls kk) := by
  have r1 := z_rf_ok hxa hyb hr
  have r2 := z_rf_ok hyb hxa (z_rel_swp hr)
  unfold z_bri at hall
  have hc : (z_ile (z_rf k a b).1 (z_rf k a b).2 && z_ile (z_rf (z_swp k) b a).1 (z_rf (z_swp k) b a).2 && !(z_bad (z_R st) k x y)) = true := by
    simp only [Bool.and_eq_true, Bool.not_eq_true']
    refine ⟨⟨decide_eq_true (Int.le_trans r1.1 r1.2), decide_eq_true (Int.le_trans r2.1 r2.2)⟩, ?_⟩
    cases hb : z_bad (z_R st) k x y with
    | false => rfl
    | true => exact (z_bad_ok hs.2.2.2.2.2.2.2.1 e1 e2 hb hr).elim
  rw [hc] at hall
  have := hall _ (List.mem_singleton.mpr rfl)
  refine (hg _ _).mp this T H locs env ls kk (z_sat_mor hs hS (fun q hq => ?_) (z_rr_ok e1 e2 hr))
  rcases List.mem_cons.mp hq with rfl | hq
  · exact ⟨_, e1, z_vi r1⟩
  · rw [List.mem_singleton.mp hq]; exact ⟨_, e2, z_vi r2⟩
theorem z_brz_ok (hg : z_Good p l e R s m args below meth c Q OB D DA cl TY PHI sz raw pu T0 H0 env0 nL good) {T : zTp} {env : List Value} {stk : List Value} (hs : z_sat OB D DA cl TY PHI sz raw pu T0 H0 env0 nL st T H locs env ls stk) {k : zC} {x : Nat} {vx : Int32} {a : zR} {S : List Nat} {t : Nat} {kk : List Value} (e1 : env[x]? = some (.int vx)) (hxa : z_in a vx) (hS : z_stk env S kk)
    (hall : ∀ q ∈ z_brz st k x a S t, good q.1 q.2) (hr : z_rel k vx.toInt 0) : W p l e R s m args below meth c H locs (z_C st).1 (z_C st).2 Q (F0 m t ls kk) := by
  have r1 := z_rf_ok (b := (0, 0)) (y := 0) hxa ⟨Int.le_refl _, Int.le_refl _⟩ hr
  unfold z_brz at hall
  have hc : z_ile (z_rf k a (0, 0)).1 (z_rf k a (0, 0)).2 = true := decide_eq_true (Int.le_trans r1.1 r1.2)
  rw [hc] at hall
  have := hall _ (List.mem_singleton.mpr rfl)
  refine (hg _ _).mp this T H locs env ls kk (z_sat_mor hs hS (fun q hq => ?_) (fun q hq => absurd hq List.not_mem_nil))
  rw [List.mem_singleton.mp hq]; exact ⟨_, e1, z_vi r1⟩
theorem z_r_icmp (hg : z_Good p l e R s m args below meth c Q OB D DA cl TY PHI sz raw pu T0 H0 env0 nL good) (hx : p.tables.exec = Jvm.exec) (hb : c.code = cc) {k : zC} {off : Int} (hd : decode cc pc = .ok (.if_icmp k off, 3)) {L : List (Nat × zS)} (h : z_icmp st pc k off = some L) (hall : ∀ q ∈ L, good q.1 q.2) : good pc st := by
  refine (hg _ _).mpr fun T H locs env ls stk hs => ?_
  unfold z_icmp at h
  split at h
  · rename_i y x S hS
    split at h
    · rename_i a b t ha hb2 ht
      cases h
      obtain ⟨vy, kk, rfl, e1, hk⟩ := z_stk_cons hS hs.2.2.2.1
      obtain ⟨vx, k2, rfl, e2, hk2⟩ := hk
      obtain ⟨v, e3, x1, rfl, hxa⟩ := z_get_ok hs.2.2.2.2.1 ha
      obtain ⟨w, e4, y1, rfl, hyb⟩ := z_get_ok hs.2.2.2.2.1 hb2
      have q1 : vx = .int x1 := Option.some.inj (e2.symm.trans e3)
      have q2 : vy = .int y1 := Option.some.inj (e1.symm.trans e4)
      subst q1; subst q2
      exact z_icmp_row hx hb hd (z_to_ok ht) (z_bri_ok hg hs e3 e4 hxa hyb hk2 (fun q hq => hall q (List.mem_append_left _ hq))) (z_bri_ok hg hs e3 e4 hxa hyb hk2 (fun q hq => hall q (List.mem_append_right _ hq)))
    · cases h
  · cases h
theorem z_r_icnd (hg : z_Good p l e R s m args below meth c Q OB D DA cl TY PHI sz raw pu T0 H0 env0 nL good) (hx : p.tables.exec = Jvm.exec) (hb : c.code = cc) {k : zC} {off : Int} (hd : decode cc pc = .ok (.ifCond k off, 3)) {L : List (Nat × zS)} (h : z_icnd st pc k off = some L) (hall : ∀ q ∈ L, good q.1 q.2) : good pc st := by
  refine (hg _ _).mpr fun T H locs env ls stk hs => ?_
  unfold z_icnd at h
  split at h
  · rename_i x S hS
    split at h
    · rename_i a t ha ht
      cases h
      obtain ⟨vx, k2, rfl, e2, hk2⟩ := z_stk_cons hS hs.2.2.2.1
      obtain ⟨v, e3, x1, rfl, hxa⟩ := z_get_ok hs.2.2.2.2.1 ha
      have q1 : vx = .int x1 := Option.some.inj (e2.symm.trans e3)
      subst q1
      exact z_icnd_row hx hb hd (z_to_ok ht) (z_brz_ok hg hs e3 hxa hk2 (fun q hq => hall q (List.mem_append_left _ hq))) (z_brz_ok hg hs e3 hxa hk2 (fun q hq => hall q (List.mem_append_right _ hq)))
    · cases h
  · cases h
theorem z_r_goto (hg : z_Good p l e R s m args below meth c Q OB D DA cl TY PHI sz raw pu T0 H0 env0 nL good) (hx : p.tables.exec = Jvm.exec) (hb : c.code = cc) {off : Int} {t : Nat} (hd : decode cc pc = .ok (.goto off, 3)) (h : z_to pc off = some t) (k : good t st) : good pc st :=
  (hg _ _).mpr fun T H locs env ls stk hs => lv_goto hx hb hd (z_to_ok h) ((hg _ _).mp k T H locs env ls stk hs)
end ZJUMPS
end
section
/-! Switches. -/
def z_tswL (st : zS) (x : Nat) (S : List Nat) (pc : Nat) (a : zR) : Int → List Int → Option (List (Nat × zS))
  | _, [] => some []
  | key, off :: r => match z_tswL st x S pc a (key + 1) r with
    | some L => cond (z_ile a.1 key && z_ile key a.2) (match z_to pc off with
      | some t => some ((t, z_mor st S [(x, .inl (key, key))] []) :: L)
      | none => none) (some L)
    | none => none
theorem z_tswL_ok {st : zS} {x : Nat} {S : List Nat} {pc : Nat} {a : zR} : ∀ (offs : List Int) (key : Int) (L : List (Nat × zS)) (i : Nat) (off : Int), z_tswL st x S pc a key offs = some L → offs[i]? = some off → a.1 ≤ key + i → key + i ≤ a.2 → ∃ t, z_to pc off = some t ∧ (t, z_mor st S [(x, .inl (key + i, key + i))] []) ∈ L
  | [], key, L, i, off, h, hi, _, _ => by simp at hi
  | o :: r, key, L, i, off, h, hi, h1, h2 => by
    unfold z_tswL at h
    cases hr : z_tswL st x S pc a (key + 1) r with
    | none => rw [hr] at h; cases h
    | some L1 =>
      rw [hr] at h
      cases i with
      | zero =>
        have ho : o = off := by simpa using hi
        subst ho
        have hc : (z_ile a.1 key && z_ile key a.2) = true := by
          rw [Bool.and_eq_true]
          exact ⟨decide_eq_true (by simpa using h1), decide_eq_true (by simpa using h2)⟩
        rw [hc] at h
        cases ht : z_to pc o with
        | none => rw [ht] at h; cases h
        | some t =>
          rw [ht] at h
          cases h
          refine ⟨t, rfl, ?_⟩
          have : key + ((0 : Nat) : Int) = key := by omega
          rw [this]
          exact List.mem_cons_self
      | succ j =>
        have hi' : r[j]? = some off := by simpa using hi
        have e : key + ((j + 1 : Nat) : Int) = key + 1 + (j : Int) := by omega
        rw [e] at h1 h2 ⊢
        obtain ⟨t, h3, h4⟩ := z_tswL_ok r (key + 1) L1 j off hr hi' h1 h2
        refine ⟨t, h3, ?_⟩
        cases hc : (z_ile a.1 key && z_ile key a.2) with
        | false => rw [hc] at h; cases h; exact h4
        | true =>
          rw [hc] at h
          cases ht : z_to pc o with
          | none => rw [ht] at h; cases h
          | some t2 => rw [ht] at h; cases h; exact List.mem_cons_of_mem _ h4
def z_tsw (st : zS) (pc : Nat) (dflt lo hi : Int) (offs : List Int) : Option (List (Nat × zS)) := match z_S st with
  | x :: S => (match z_get (z_V st) x, z_to pc dflt with
    | some (.inl a), some t => (match z_tswL st x S pc a lo offs with
      | some L => cond (z_ile lo (hi + 1) && Nat.beq offs.length (hi + 1 - lo).toNat) (some (cond (z_ile lo a.1) [] [(t, z_mor st S [(x, .inl (a.1, z_min a.2 (lo - 1)))] [])] ++ cond (z_ile a.2 hi) [] [(t, z_mor st S [(x, .inl (z_max a.1 (hi + 1), a.2))] [])] ++ L)) none
      | none => none)
    | _, _ => none)
  | _ => none
def z_lswL (st : zS) (x : Nat) (S : List Nat) (pc : Nat) (t0 : Nat) : zR → List (Int × Int) → Option (List (Nat × zS))
  | a, [] => some (cond (z_ile a.1 a.2) [(t0, z_mor st S [(x, .inl a)] [])] [])
  | a, q :: r => match z_lswL st x S pc t0 (z_rf .ne a (q.1, q.1)) r with
    | some L => cond (z_ile a.1 q.1 && z_ile q.1 a.2) (match z_to pc q.2 with
      | some t => some ((t, z_mor st S [(x, .inl (q.1, q.1))] []) :: L)
      | none => none) (some L)
    | none => none
def z_lsw (st : zS) (pc : Nat) (dflt : Int) (ps : List (Int × Int)) : Option (List (Nat × zS)) := match z_S st with
  | x :: S => (match z_get (z_V st) x, z_to pc dflt with
    | some (.inl a), some t => cond ((ps.zip (ps.drop 1)).all (fun (a, next) => a.1 < next.1)) (z_lswL st x S pc t a ps) none
    | _, _ => none)
  | _ => none
theorem z_lswL_ok {st : zS} {x : Nat} {S : List Nat} {pc t0 : Nat} {dflt : Int} (h0 : z_to pc dflt = some t0) {v : Int32} : ∀ (ps : List (Int × Int)) (a : zR) (L : List (Nat × zS)), z_lswL st x S pc t0 a ps = some L → z_in a v → ∃ t r, z_to pc (lookupswitch.offset ps dflt v.toInt) = some t ∧ z_in r v ∧ (t, z_mor st S [(x, .inl r)] []) ∈ L
  | [], a, L, h, hv => by
    unfold z_lswL at h
    have hc : z_ile a.1 a.2 = true := decide_eq_true (Int.le_trans hv.1 hv.2)
    rw [hc] at h
    cases h
    exact ⟨t0, a, h0, hv, List.mem_singleton.mpr rfl⟩
  | q :: r, a, L, h, hv => by
    obtain ⟨key, off⟩ := q
    unfold z_lswL at h
    rw [lookupswitch.offset_cons]
    cases hr : z_lswL st x S pc t0 (z_rf .ne a (key, key)) r with
    | none => rw [hr] at h; cases h
    | some L1 =>
      rw [hr] at h
      by_cases hk : key = v.toInt
      · rw [if_pos hk]
        have hc : (z_ile a.1 key && z_ile key a.2) = true := by
          rw [Bool.and_eq_true]
          exact ⟨decide_eq_true (by rw [hk]; exact hv.1), decide_eq_true (by rw [hk]; exact hv.2)⟩
        rw [hc] at h
        cases ht : z_to pc off with
        | none => rw [ht] at h; cases h
        | some t =>
          rw [ht] at h
          cases h
          exact ⟨t, (key, key), rfl, ⟨by rw [hk]; exact Int.le_refl _, by rw [hk]; exact Int.le_refl _⟩, List.mem_cons_self⟩
      · rw [if_neg hk]
        have hv2 : z_in (z_rf .ne a (key, key)) v := by
          by_cases hb : -2147483648 ≤ key ∧ key ≤ 2147483647
          · have hkk : (Int32.ofInt key).toInt = key := Int32.toInt_ofInt_of_le (by omega) (by omega)
            exact z_rf_ok (y := Int32.ofInt key) hv ⟨by rw [hkk]; exact Int.le_refl _, by rw [hkk]; exact Int.le_refl _⟩ (by rw [hkk]; exact fun q => hk q.symm)
          · obtain ⟨x1, x2⟩ := hv
            have l := z_lo v
            have u := z_hi v
            refine ⟨?_, ?_⟩
            · show cond _ _ _ ≤ _
              cases hc : z_ile key key && z_ile a.1 key && z_ile key a.1 with
              | false => exact x1
              | true =>
                simp only [Bool.and_eq_true] at hc
                have := z_ile_ok hc.1.2; have := z_ile_ok hc.2
                show a.1 + 1 ≤ _
                omega
            · show _ ≤ cond _ _ _
              cases hc : z_ile key key && z_ile a.2 key && z_ile key a.2 with
              | false => exact x2
              | true =>
                simp only [Bool.and_eq_true] at hc
                have := z_ile_ok hc.1.2; have := z_ile_ok hc.2
                show _ ≤ a.2 - 1
                omega
        obtain ⟨t, r2, h3, h4, h5⟩ := z_lswL_ok h0 r _ L1 hr hv2
        refine ⟨t, r2, h3, h4, ?_⟩
        cases hc : (z_ile a.1 key && z_ile key a.2) with
        | false => rw [hc] at h; cases h; exact h5
        | true =>
          rw [hc] at h
          cases ht : z_to pc off with
          | none => rw [ht] at h; cases h
          | some t2 => rw [ht] at h; cases h; exact List.mem_cons_of_mem _ h5
section ZSWITCH
variable {p : Program} {l : Launch} {e : Env} {R : Room} {s : State} {m : MethodId} {args : Array Value} {below : List Frame} {meth : Method} {c : Code} {Q : State → Prop} {cc : ByteArray} {pc : Nat}
variable {OB : Nat → Nat} {D : va_G} {DA : Nat → ClassId} {cl : List vw_C} {TY : List zTy} {PHI : List (List Nat)} {sz : Nat} {raw : Option Nat} {pu : Bool} {T0 : zTp} {H0 : Heap} {env0 : List Value} {nL : Nat} {st st' : zS} {good : Nat → zS → Prop}
theorem z_r_tsw (hg : z_Good p l e R s m args below meth c Q OB D DA cl TY PHI sz raw pu T0 H0 env0 nL good) (hx : p.tables.exec = Jvm.exec) (hb : c.code = cc) {dflt lo hi : Int} {offs : Array Int} {len : Nat} (hd : decode cc pc = .ok (.tableswitch dflt lo hi offs, len)) {L : List (Nat × zS)} (h : z_tsw st pc dflt lo hi offs.toList = some L) (hall : ∀ q ∈ L, good q.1 q.2) : good pc st := by
  refine (hg _ _).mpr fun T H locs env ls stk hs => ?_
  unfold z_tsw at h
  split at h
  · rename_i x S hS
    split at h
    · rename_i a t ha ht
      split at h
      · rename_i L1 hL1
        obtain ⟨hc, rfl⟩ := z_cond h
        rw [Bool.and_eq_true] at hc
        have c1 := z_ile_ok hc.1
        have c2 := z_beq hc.2
        obtain ⟨vx, k2, rfl, e2, hk2⟩ := z_stk_cons hS hs.2.2.2.1
        obtain ⟨v, e3, x1, rfl, hxa⟩ := z_get_ok hs.2.2.2.2.1 ha
        have q1 : vx = .int x1 := Option.some.inj (e2.symm.trans e3)
        subst q1
        have go : ∀ (t2 : Nat) (r : zR), z_in r x1 → (t2, z_mor st S [(x, .inl r)] []) ∈ (cond (z_ile lo a.1) [] [(t, z_mor st S [(x, .inl (a.1, z_min a.2 (lo - 1)))] [])] ++ cond (z_ile a.2 hi) [] [(t, z_mor st S [(x, .inl (z_max a.1 (hi + 1), a.2))] [])] ++ L1) → W p l e R s m args below meth c H locs (z_C st).1 (z_C st).2 Q (F0 m t2 ls k2) := by
          intro t2 r hr hm
          refine (hg _ _).mp (hall _ hm) T H locs env ls k2 (z_sat_mor hs hk2 (fun q hq => ?_) (fun q hq => absurd hq List.not_mem_nil))
          rw [List.mem_singleton.mp hq]; exact ⟨_, e3, z_vi hr⟩
        by_cases hlo : x1.toInt < lo
        · refine lv_tableOut hx hb hd (Or.inl hlo) (z_to_ok ht) (go t (a.1, z_min a.2 (lo - 1)) ⟨hxa.1, z_min_ge hxa.2 (by omega)⟩ ?_)
          have : z_ile lo a.1 = false := by
            cases hq : z_ile lo a.1 with
            | false => rfl
            | true => have := z_ile_ok hq; have := hxa.1; omega
          rw [this]
          exact List.mem_append_left _ (List.mem_append_left _ (List.mem_singleton.mpr rfl))
        · by_cases hhi : hi < x1.toInt
          · refine lv_tableOut hx hb hd (Or.inr hhi) (z_to_ok ht) (go t (z_max a.1 (hi + 1), a.2) ⟨z_max_le hxa.1 (by omega), hxa.2⟩ ?_)
            have : z_ile a.2 hi = false := by
              cases hq : z_ile a.2 hi with
              | false => rfl
              | true => have := z_ile_ok hq; have := hxa.2; omega
            rw [this]
            exact List.mem_append_left _ (List.mem_append_right _ (List.mem_singleton.mpr rfl))
          · have hlt : (x1.toInt - lo).toNat < offs.toList.length := by omega
            have hgo := List.getElem?_eq_getElem hlt
            have ek : lo + (((x1.toInt - lo).toNat : Nat) : Int) = x1.toInt := by omega
            obtain ⟨t2, h3, h4⟩ := z_tswL_ok offs.toList lo L1 (x1.toInt - lo).toNat _ hL1 hgo (by rw [ek]; exact hxa.1) (by rw [ek]; exact hxa.2)
            rw [ek] at h4
            refine lv_tableIn hx hb hd hlo hhi (off := offs.toList[(x1.toInt - lo).toNat]) ?_ (z_to_ok h3) (go t2 _ ⟨Int.le_refl _, Int.le_refl _⟩ (List.mem_append_right _ h4))
            rw [← Array.getElem?_toList]; exact hgo
      · cases h
    · cases h
  · cases h
theorem z_r_lsw (hg : z_Good p l e R s m args below meth c Q OB D DA cl TY PHI sz raw pu T0 H0 env0 nL good) (hx : p.tables.exec = Jvm.exec) (hb : c.code = cc) {dflt : Int} {ps : Array (Int × Int)} {len : Nat} (hd : decode cc pc = .ok (.lookupswitch dflt ps, len)) {L : List (Nat × zS)} (h : z_lsw st pc dflt ps.toList = some L) (hall : ∀ q ∈ L, good q.1 q.2) : good pc st := by
  refine (hg _ _).mpr fun T H locs env ls stk hs => ?_
  unfold z_lsw at h
  split at h
  · rename_i x S hS
    split at h
    · rename_i a t ha ht
      cases hc : (ps.toList.zip (ps.toList.drop 1)).all (fun (a, next) => a.1 < next.1) with
      | false => rw [hc] at h; cases h
      | true =>
        rw [hc] at h
        obtain ⟨vx, k2, rfl, e2, hk2⟩ := z_stk_cons hS hs.2.2.2.1
        obtain ⟨v, e3, x1, rfl, hxa⟩ := z_get_ok hs.2.2.2.2.1 ha
        have q1 : vx = .int x1 := Option.some.inj (e2.symm.trans e3)
        subst q1
        obtain ⟨t2, r, h3, h4, h5⟩ := z_lswL_ok ht ps.toList a L h hxa
        refine lv_lookup hx hb hd hc rfl (z_to_ok h3) ?_
        refine (hg _ _).mp (hall _ h5) T H locs env ls k2 (z_sat_mor hs hk2 (fun q hq => ?_) (fun q hq => absurd hq List.not_mem_nil))
        rw [List.mem_singleton.mp hq]; exact ⟨_, e3, z_vi h4⟩
    · cases h
  · cases h
end ZSWITCH
end
section
/-! Reading and writing cells. -/
def z_isx (st : zS) (d : Nat) : Bool := (z_X st).any (fun q => Nat.beq q.1 d)
/-- two values are references to different cells -/
def z_apt (st : zS) (i j : Nat) : Bool := match z_get (z_V st) i, z_get (z_V st) j with
  | some (.inr (.inl t)), some (.inr (.inl u)) => !(Nat.beq t u)
  | some (.inr (.inl _)), none => z_isx st j
  | none, some (.inr (.inl _)) => z_isx st i
  | none, none => z_isx st i && z_isx st j && !(Nat.beq i j)
  | _, _ => false
/-- two indexes are apart -/
def z_dis (st : zS) (i j : Nat) : Bool := match z_get (z_V st) i, z_get (z_V st) j with
  | some (.inl a), some (.inl b) => z_ile (a.2 + 1) b.1 || z_ile (b.2 + 1) a.1
  | _, _ => false
/-- two indexes are one -/
def z_sme (st : zS) (i j : Nat) : Bool := Nat.beq i j || (match z_get (z_V st) i, z_get (z_V st) j with
  | some (.inl a), some (.inl b) => z_ile a.2 a.1 && z_ile b.2 b.1 && z_ile a.1 b.1 && z_ile b.1 a.1
  | _, _ => false)
def z_ffind (st : zS) (d ci k : Nat) : Option Nat := ((z_F st).find? (fun q => Nat.beq q.1 d && Nat.beq q.2.1 ci && Nat.beq q.2.2.1 k)).map (fun q => q.2.2.2)
def z_efind (st : zS) (d j : Nat) : Option Nat := ((z_E st).find? (fun q => Nat.beq q.1 d && z_sme st q.2.1 j)).map (fun q => q.2.2)
section ZHEAP
variable {OB : Nat → Nat} {D : va_G} {DA : Nat → ClassId} {cl : List vw_C} {TY : List zTy} {PHI : List (List Nat)} {sz : Nat} {raw : Option Nat} {pu : Bool} {T0 : zTp} {H0 : Heap} {env0 : List Value} {nL : Nat} {st st' : zS} {T : zTp} {H : Heap} {locs : List Loc} {env : List Value} {ls : Array Slot} {stk : List Value}
theorem z_isx_ok {d : Nat} (h : z_isx st d = true) (hs : z_sat OB D DA cl TY PHI sz raw pu T0 H0 env0 nL st T H locs env ls stk) : ∃ a : Nat, env[d]? = some (.ref a) ∧ T a = none ∧ (sz ≤ a ∧ (H0.size ≤ a ∨ raw = some a)) ∧ ∃ q ∈ z_X st, q.1 = d ∧ ∃ r V, cl[q.2]? = some r ∧ t_OB a (D.1 q.2) r.2.2 (D.2 q.2) H V := by
  obtain ⟨q, hq, hq2⟩ := List.any_eq_true.mp h
  obtain ⟨a, h1, h2, h3, h4⟩ := z_fx_in hs.2.2.2.2.2.2.2.2.1 q hq
  have e := z_beq hq2
  rw [e] at h1
  exact ⟨a, h1, h2, h3, q, hq, e, h4⟩
theorem z_fx_apart {n0 : Nat} {X : List (Nat × Nat)} (h : z_fx D cl T sz n0 raw H env X) {p q : Nat × Nat} (hp : p ∈ X) (hq : q ∈ X) (hne : p.1 ≠ q.1) {a : Nat} (h1 : env[p.1]? = some (.ref a)) : env[q.1]? ≠ some (.ref a) := by
  induction X with
  | nil => exact absurd hp List.not_mem_nil
  | cons x X ih =>
    obtain ⟨⟨b, e1, _, _, _, e5⟩, hr⟩ := h
    rcases List.mem_cons.mp hp with ep | hp2
    · rcases List.mem_cons.mp hq with eq | hq2
      · exact absurd (by rw [ep, eq]) hne
      · intro e
        rw [ep] at h1
        have hb : b = a := by rw [e1] at h1; cases h1; rfl
        subst hb
        exact e5 q hq2 e
    · rcases List.mem_cons.mp hq with eq | hq2
      · intro e
        rw [eq] at e
        have hb : b = a := by rw [e1] at e; cases e; rfl
        subst hb
        exact e5 p hp2 h1
      · exact ih hr hp2 hq2
theorem z_apt_ok {i j : Nat} (h : z_apt st i j = true) (hs : z_sat OB D DA cl TY PHI sz raw pu T0 H0 env0 nL st T H locs env ls stk) {a b : Nat} (h1 : env[i]? = some (.ref a)) (h2 : env[j]? = some (.ref b)) : a ≠ b := by
  unfold z_apt at h
  split at h
  · rename_i t u ht hu
    obtain ⟨v, e1, a1, rfl, g1⟩ := z_get_ok hs.2.2.2.2.1 ht
    obtain ⟨w, e2, b1, rfl, g2⟩ := z_get_ok hs.2.2.2.2.1 hu
    rw [h1] at e1; cases e1
    rw [h2] at e2; cases e2
    intro q
    subst q
    rw [g1] at g2
    cases g2
    simp at h
  · rename_i t ht hu
    obtain ⟨v, e1, a1, rfl, g1⟩ := z_get_ok hs.2.2.2.2.1 ht
    obtain ⟨b1, e2, g2, _⟩ := z_isx_ok h hs
    rw [h1] at e1; cases e1
    rw [h2] at e2; cases e2
    intro q
    subst q
    rw [g1] at g2
    cases g2
  · rename_i t ht hu
    obtain ⟨v, e1, a1, rfl, g1⟩ := z_get_ok hs.2.2.2.2.1 hu
    obtain ⟨b1, e2, g2, _⟩ := z_isx_ok h hs
    rw [h2] at e1; cases e1
    rw [h1] at e2; cases e2
    intro q
    subst q
    rw [g1] at g2
    cases g2
  · simp only [Bool.and_eq_true, Bool.not_eq_true'] at h
    obtain ⟨a1, e1, _, _, p, hp, rfl, _⟩ := z_isx_ok h.1.1 hs
    obtain ⟨b1, e2, _, _, q, hq, rfl, _⟩ := z_isx_ok h.1.2 hs
    have hne : p.1 ≠ q.1 := by
      intro e
      rw [e] at h
      simp at h
    intro e
    subst e
    exact z_fx_apart hs.2.2.2.2.2.2.2.2.1 hp hq hne h1 h2
  · cases h
theorem z_sl_kept {H1 : Heap} {a k : Nat} {w : Value} (h : z_sl H a k w) (e : H1[a]? = H[a]?) : z_sl H1 a k w := by
  obtain ⟨cell, h1, h2, h3⟩ := h
  exact ⟨cell, by rw [e]; exact h1, h2, h3⟩
theorem z_cell_kept {H1 : Heap} {a : Nat} {ty : zTy} (h : z_cell OB D DA cl T H a ty) (e : H1[a]? = H[a]?) : z_cell OB D DA cl T H1 a ty := by
  cases ty with
  | inl o =>
    obtain ⟨r, h1, h2, V, h3, h4⟩ := h
    exact ⟨r, h1, h2, V, h3.kept e, h4⟩
  | inr q =>
    obtain ⟨n, f, h1, h2⟩ := h
    exact ⟨n, f, by rw [e]; exact h1, h2⟩
theorem z_dis_ok {i j : Nat} (h : z_dis st i j = true) (hs : z_sat OB D DA cl TY PHI sz raw pu T0 H0 env0 nL st T H locs env ls stk) {x y : Int32} (h1 : env[i]? = some (.int x)) (h2 : env[j]? = some (.int y)) : x.toInt ≠ y.toInt := by
  unfold z_dis at h
  split at h
  · rename_i a b ha hb
    obtain ⟨v, e1, x1, rfl, g1⟩ := z_get_ok hs.2.2.2.2.1 ha
    obtain ⟨w, e2, y1, rfl, g2⟩ := z_get_ok hs.2.2.2.2.1 hb
    rw [h1] at e1; cases e1
    rw [h2] at e2; cases e2
    rw [Bool.or_eq_true] at h
    obtain ⟨p1, p2⟩ := g1
    obtain ⟨p3, p4⟩ := g2
    rcases h with h | h <;> have := z_ile_ok h <;> omega
  · cases h
theorem z_sme_ok {i j : Nat} (h : z_sme st i j = true) (hs : z_sat OB D DA cl TY PHI sz raw pu T0 H0 env0 nL st T H locs env ls stk) {x y : Int32} (h1 : env[i]? = some (.int x)) (h2 : env[j]? = some (.int y)) : x = y := by
  unfold z_sme at h
  rw [Bool.or_eq_true] at h
  rcases h with h | h
  · rw [z_beq h, h2] at h1; cases h1; rfl
  · split at h
    · rename_i a b ha hb
      obtain ⟨v, e1, x1, rfl, g1⟩ := z_get_ok hs.2.2.2.2.1 ha
      obtain ⟨w, e2, y1, rfl, g2⟩ := z_get_ok hs.2.2.2.2.1 hb
      rw [h1] at e1; cases e1
      rw [h2] at e2; cases e2
      simp only [Bool.and_eq_true] at h
      have := z_ile_ok h.1.1.1; have := z_ile_ok h.1.1.2; have := z_ile_ok h.1.2; have := z_ile_ok h.2
      obtain ⟨p1, p2⟩ := g1
      obtain ⟨p3, p4⟩ := g2
      exact Int32.toInt_inj.mp (by omega)
    · cases h
theorem z_ffind_ok {d ci k w : Nat} (h : z_ffind st d ci k = some w) (hs : z_sat OB D DA cl TY PHI sz raw pu T0 H0 env0 nL st T H locs env ls stk) : ∃ (a : Nat) (v : Value), env[d]? = some (.ref a) ∧ env[w]? = some v ∧ z_sl H a (D.2 ci k) v := by
  unfold z_ffind at h
  cases hf : (z_F st).find? (fun q => Nat.beq q.1 d && Nat.beq q.2.1 ci && Nat.beq q.2.2.1 k) with
  | none => rw [hf] at h; cases h
  | some q =>
    rw [hf] at h
    cases h
    have hm := List.mem_of_find?_eq_some hf
    have hp := List.find?_some hf
    simp only [Bool.and_eq_true] at hp
    obtain ⟨a, v, r, e1, e2, e3, e4, e5⟩ := hs.2.2.2.2.2.1 q hm
    rw [z_beq hp.1.1] at e1
    rw [z_beq hp.1.2, z_beq hp.2] at e5
    exact ⟨a, v, e1, e2, e5⟩
theorem z_efind_ok {d j w : Nat} (h : z_efind st d j = some w) (hs : z_sat OB D DA cl TY PHI sz raw pu T0 H0 env0 nL st T H locs env ls stk) {y : Int32} (hj : env[j]? = some (.int y)) : ∃ (a : Nat) (v : Value), env[d]? = some (.ref a) ∧ env[w]? = some v ∧ 0 ≤ y.toInt ∧ z_sl H a y.toInt.toNat v := by
  unfold z_efind at h
  cases hf : (z_E st).find? (fun q => Nat.beq q.1 d && z_sme st q.2.1 j) with
  | none => rw [hf] at h; cases h
  | some q =>
    rw [hf] at h
    cases h
    have hm := List.mem_of_find?_eq_some hf
    have hp := List.find?_some hf
    simp only [Bool.and_eq_true] at hp
    obtain ⟨a, x, v, e1, e2, e3, e4, e5⟩ := hs.2.2.2.2.2.2.1 q hm
    rw [z_beq hp.1] at e1
    have := z_sme_ok hp.2 hs e2 hj
    subst this
    exact ⟨a, v, e1, e4, e3, e5⟩
/-- a typed object -/
theorem z_obj {d t ci : Nat} {fl : List zV} (hs : z_sat OB D DA cl TY PHI sz raw pu T0 H0 env0 nL st T H locs env ls stk) (h1 : z_get (z_V st) d = some (.inr (.inl t))) (h2 : TY[t]? = some (.inl (ci, fl))) : ∃ (a : Nat) (r : vw_C) (V : Nat → Value), env[d]? = some (.ref a) ∧ T a = some t ∧ cl[ci]? = some r ∧ fl.length = r.2.2 ∧ t_OB a (D.1 ci) r.2.2 (D.2 ci) H V ∧ ∀ k c, fl[k]? = some c → z_v OB T c (V k) := by
  obtain ⟨v, e1, a, rfl, g1⟩ := z_get_ok hs.2.2.2.2.1 h1
  obtain ⟨ty, g2, g3⟩ := hs.2.2.2.2.2.2.2.2.2.1 a t g1
  rw [h2] at g2
  cases g2
  obtain ⟨r, q1, q2, V, q3, q4⟩ := g3
  exact ⟨a, r, V, e1, g1, q1, q2, q3, q4⟩
theorem z_arr {d t ek lo hi : Nat} {sg : List ((Nat × Nat) × zV)} (hs : z_sat OB D DA cl TY PHI sz raw pu T0 H0 env0 nL st T H locs env ls stk) (h1 : z_get (z_V st) d = some (.inr (.inl t))) (h2 : TY[t]? = some (.inr (ek, (lo, hi), sg))) : ∃ (a n : Nat) (f : Nat → Value), env[d]? = some (.ref a) ∧ T a = some t ∧ H[a]? = some (arrV (DA ek) n f) ∧ lo ≤ n ∧ n ≤ hi ∧ n < 2147483648 ∧ ∀ g ∈ sg, ∀ j, j < n → g.1.1 ≤ j → j ≤ g.1.2 → z_v OB T g.2 (f j) := by
  obtain ⟨v, e1, a, rfl, g1⟩ := z_get_ok hs.2.2.2.2.1 h1
  obtain ⟨ty, g2, g3⟩ := hs.2.2.2.2.2.2.2.2.2.1 a t g1
  rw [h2] at g2
  cases g2
  obtain ⟨n, f, q1, q2, q3, q4, q5⟩ := g3
  exact ⟨a, n, f, e1, g1, q1, q2, q3, q4, q5⟩
end ZHEAP
end
section
/-! Fields. -/
def z_ek : Nat → FieldType
  | 0 => .int
  | 1 => .byte
  | _ => .long
/-- what the tables say of the classes and of a class's own places -/
def z_St (Ts : List Cond) (cl : List vw_C) (FT : Nat → Nat → FieldType) (own : String) (FL : List (Nat × Nat × Nat)) : Prop :=
  (∀ ci r, cl[ci]? = some r → (∀ w ∈ u_ws r.1 r.2.1 r.2.2, w ∈ Ts) ∧ (∀ k, k < r.2.2 → parseFieldDescriptor (r.2.1 k).2.2.1 = some (FT ci k)) ∧ (∀ a, a < r.2.2 → ∀ b, b < r.2.2 → a ≠ b → (r.2.1 a).2.1 ≠ (r.2.1 b).2.1) ∧ (∀ k, k < r.2.2 → (r.2.1 k).1 = r.1)) ∧
  (∀ q ∈ FL, ∃ r, cl[q.2.1]? = some r ∧ q.2.2 < r.2.2 ∧ Cond.fieldLink own q.1 (r.2.1 q.2.2).1 (r.2.1 q.2.2).2.1 (r.2.1 q.2.2).2.2.1 ∈ Ts)
def z_Dy (s : State) (m : MethodId) (args : Array Value) (Ts : List Cond) (own : String) (D : va_G) (cl : List vw_C) (DA : Nat → ClassId) (tys : List (ClassId × FieldType)) : Prop :=
  (∀ w ∈ Ts, w.before args s = true) ∧ s.vm.findClass own = some m.cls ∧ va_K D cl tys s ∧ ∀ k, k < 3 → tys[k]? = some (DA k, z_ek k)
def z_fit (ty : FieldType) (c : zV) : Bool := match ty, c with
  | .int, .inl _ => true
  | .boolean, .inl r => z_ile 0 r.1 && z_ile r.2 1
  | .object _, .inr (.inl _) => true
  | .array _, .inr (.inl _) => true
  | _, _ => false
theorem z_fit_ok {OB : Nat → Nat} {T : zTp} {ty : FieldType} {c : zV} {v : Value} (h : z_fit ty c = true) (hv : z_v OB T c v) : narrow ty v = v ∧ fits ty v = true := by
  cases ty <;> rcases c with r | t | k <;> simp only [z_fit, Bool.false_eq_true, Bool.and_eq_true] at h
  · obtain ⟨x, rfl, h1, h2⟩ := hv
    exact ⟨rfl, rfl⟩
  · obtain ⟨x, rfl, h1, h2⟩ := hv
    have l1 := z_ile_ok h.1
    have l2 := z_ile_ok h.2
    have hx : x.toInt = 0 ∨ x.toInt = 1 := by omega
    rcases hx with hx | hx
    · have : x = 0 := z_int0 hx
      subst this
      exact ⟨rfl, rfl⟩
    · have : x = 1 := Int32.toInt_inj.mp (by rw [hx]; rfl)
      subst this
      exact ⟨rfl, rfl⟩
  · obtain ⟨a, rfl, h1⟩ := hv
    exact ⟨rfl, rfl⟩
  · obtain ⟨a, rfl, h1⟩ := hv
    exact ⟨rfl, rfl⟩
/-- a cell whose slot is set is still of its class -/
theorem z_ob_set {a : Nat} {cC : ClassId} {N : Nat} {iS : Nat → Nat} {H H1 : Heap} {V : Nat → Value} {cell : Cell} {j : Nat} {v : Value} (h : t_OB a cC N iS H V) (hc : H[a]? = some cell) (h1 : H1[a]? = some (cell.setSlot j v)) : ∃ V', t_OB a cC N iS H1 V' := by
  obtain ⟨cell2, q1, q2, q3, q4⟩ := h
  rw [hc] at q1
  cases q1
  refine ⟨fun k => if iS k = j then v else V k, _, h1, q2, q3, fun k hk => ?_⟩
  show (cell.setSlot j v).slots[iS k]? = some (if iS k = j then v else V k)
  by_cases e : iS k = j
  · rw [if_pos e, e]
    exact Cell.slots_setSlot_self _ (k2_hasslot (by rw [← e]; exact q4 k hk))
  · rw [if_neg e, slot_ne _ _ (fun h => e h.symm)]
    exact q4 k hk
section ZFIELDS
variable {p : Program} {l : Launch} {e : Env} {R : Room} {s : State} {m : MethodId} {args : Array Value} {below : List Frame} {meth : Method} {c : Code} {Q : State → Prop} {cc : ByteArray} {pc : Nat}
variable {OB : Nat → Nat} {D : va_G} {DA : Nat → ClassId} {cl : List vw_C} {TY : List zTy} {PHI : List (List Nat)} {sz : Nat} {raw : Option Nat} {pu : Bool} {T0 : zTp} {H0 : Heap} {env0 : List Value} {nL : Nat} {st st' : zS} {good : Nat → zS → Prop}
variable {Ts : List Cond} {own : String} {FT : Nat → Nat → FieldType} {FL : List (Nat × Nat × Nat)} {tys : List (ClassId × FieldType)}
variable {T : zTp} {H : Heap} {locs : List Loc} {env : List Value} {ls : Array Slot} {stk : List Value} {cells slots : Nat} {rest : List Value}
theorem z_apart {ci : Nat} {r : vw_C} (hS : z_St Ts cl FT own FL) (hD : z_Dy s m args Ts own D cl DA tys) (hc : cl[ci]? = some r) : ∀ x y, x < r.2.2 → y < r.2.2 → x ≠ y → D.2 ci x ≠ D.2 ci y :=
  va_apart (own := own) hD.1 (hS.1 ci r hc).1 (FT ci) (hS.1 ci r hc).2.1 (hS.1 ci r hc).2.2.1 hD.2.2.1 hc
/-- a field is read, by its slot -/
theorem z_getrow (hx : p.tables.exec = Jvm.exec) (hb : c.code = cc) (hS : z_St Ts cl FT own FL) (hD : z_Dy s m args Ts own D cl DA tys) {q : Nat × Nat × Nat} (hq : q ∈ FL) {a : Nat} {v : Value} (hv : z_sl H a (D.2 q.2.1 q.2.2) v) (hd : decode cc pc = .ok (.getfield q.1, 3))
    (kk : W p l e R s m args below meth c H locs cells slots Q (F0 m (pc + 3) ls (v :: rest))) : W p l e R s m args below meth c H locs cells slots Q (F0 m pc ls (.ref a :: rest)) := by
  obtain ⟨r, hc, hk, hl⟩ := hS.2 q hq
  obtain ⟨hts, hown, hK, -⟩ := hD
  obtain ⟨hSl, hfc, kC, hkC, hkind⟩ := hK.1 _ _ hc
  obtain ⟨cf, kf, fi, f, hi, hsl⟩ := hSl q.2.2 hk
  obtain ⟨cell, g1, g2, g3⟩ := hv
  exact W.getf hx hb hown (hts _ hl) hi (u_facts hfc hkC (u_lays hts (hS.1 _ _ hc).1 hk) hi).1 g1 (by rw [g2]; exact fun h => by cases h) (v := v) (by rw [hsl]; exact g3) rfl rfl hd kk
/-- a field is set -/
theorem z_putrow (hx : p.tables.exec = Jvm.exec) (hb : c.code = cc) (hS : z_St Ts cl FT own FL) (hD : z_Dy s m args Ts own D cl DA tys) {q : Nat × Nat × Nat} (hq : q ∈ FL) {r : vw_C} (hc : cl[q.2.1]? = some r) {a : Nat} {V : Nat → Value} (ho : t_OB a (D.1 q.2.1) r.2.2 (D.2 q.2.1) H V) (hfin : (r.2.1 q.2.2).2.2.2 = false ∨ (meth.name = "<init>" ∧ r.1 = own)) {v : Value} (hn : narrow (FT q.2.1 q.2.2) v = v ∧ fits (FT q.2.1 q.2.2) v = true) (hd : decode cc pc = .ok (.putfield q.1, 3))
    (kk : ∀ (H1 : Heap) (cell : Cell), H[a]? = some cell → H1[a]? = some (cell.setSlot (D.2 q.2.1 q.2.2) v) → H1.size = H.size → (∀ b : Nat, b ≠ a → H1[b]? = H[b]?) → t_OB a (D.1 q.2.1) r.2.2 (D.2 q.2.1) H1 (updV V q.2.2 v) → W p l e R s m args below meth c H1 (locs ++ [⟨a, D.2 q.2.1 q.2.2⟩]) cells slots Q (F0 m (pc + 3) ls rest)) : W p l e R s m args below meth c H locs cells slots Q (F0 m pc ls (v :: .ref a :: rest)) := by
  have hap := z_apart hS hD hc
  obtain ⟨r2, hc2, hk, hl⟩ := hS.2 q hq
  rw [hc] at hc2
  cases hc2
  obtain ⟨hts, hown, hK, -⟩ := hD
  obtain ⟨hSl, hfc, kC, hkC, hkind⟩ := hK.1 _ _ hc
  obtain ⟨cf, kf, fi, f, hi, hsl⟩ := hSl q.2.2 hk
  obtain ⟨cell, q1, q2, q3, q4⟩ := ho
  have hlay := hts _ ((hS.1 _ _ hc).1 _ (u_in_lay hk))
  have hdt := (hS.1 _ _ hc).2.1 _ hk
  have hst := (u_facts hfc hkC (u_lays hts (hS.1 _ _ hc).1 hk) hi).1
  have fin : ∀ H', H'[a]? = some (cell.setSlot f.slot v) → t_OB a (D.1 q.2.1) r.2.2 (D.2 q.2.1) H' (updV V q.2.2 v) := by
    intro H' e1
    rw [hsl] at e1
    exact ⟨_, e1, q2, q3, t_set q4 hap hk v⟩
  cases hf : (r.2.1 q.2.2).2.2.2 with
  | false =>
    unfold u_lay at hlay
    rw [if_neg (by rw [hf]; decide)] at hlay
    have h6 := u_store hfc hkC hkind hlay hi hdt hn.1 hn.2
    refine W.putK hx hb (f := f) ⟨hown, hts _ hl, ⟨_, _, _, hi⟩, hst⟩ (by rw [q2]; exact h6) q1 q3 (by rw [hsl]; exact k2_hasslot (q4 _ hk)) rfl rfl hd fun H' e1 e2 e3 => ?_
    have := kk H' cell q1 (by rw [← hsl]; exact e1) e2 e3 (fin H' e1)
    rwa [← hsl] at this
  | true =>
    unfold u_lay at hlay
    rw [if_pos hf] at hlay
    rcases hfin with h | ⟨hin, hcl⟩
    · rw [hf] at h; cases h
    · have hcf : m.cls = cf := by
        obtain ⟨_, _, c', _, _, _, -, -, hf', -, -, -, hown2, -⟩ := Cond.laysFinal_spec hlay
        have e1 : c' = cf := by have := hi.symm.trans hf'; simp at this; exact this.1.symm
        rw [(hS.1 _ _ hc).2.2.2 _ hk, hcl] at hown2
        rw [← e1]; exact Option.some.inj (hown.symm.trans hown2)
      have h6 := u_fits hfc hkC hkind (Or.inr hlay) hi hdt hn.1 hn.2
      refine W.putFinK hx hb hown (hts _ hl) hi hst hcf hin (by rw [q2]; exact h6) q1 q3 (by rw [hsl]; exact k2_hasslot (q4 _ hk)) rfl rfl hd fun H' e1 e2 e3 => ?_
      have := kk H' cell q1 (by rw [← hsl]; exact e1) e2 e3 (fin H' e1)
      rwa [← hsl] at this
end ZFIELDS
end
section
/-! Fields read and set. -/
def z_ld (st : zS) (S : List Nat) (c : zV) (fs : List (Nat × Nat × Nat × Nat)) (es : List (Nat × Nat × Nat)) : zS := (z_L st, z_n st :: S, z_n st + 1, (z_n st, c) :: z_V st, fs ++ z_F st, es ++ z_E st, z_R st, z_X st, z_C st, z_ph st)
def z_getf (TY : List zTy) (FL : List (Nat × Nat × Nat)) (st : zS) (i : Nat) : Option zS := match z_S st, FL.find? (fun q => Nat.beq q.1 i) with
  | d :: S, some q => (match z_ffind st d q.2.1 q.2.2, z_isr st d with
    | some w, true => some (z_stS st (w :: S))
    | none, true => (match z_get (z_V st) d with
      | some (.inr (.inl t)) => (match TY[t]? with
        | some (.inl o) => (match o.2[q.2.2]? with
          | some c => cond (Nat.beq o.1 q.2.1) (some (z_ld st S c [(d, q.2.1, q.2.2, z_n st)] [])) none
          | none => none)
        | _ => none)
      | _ => none)
    | _, _ => none)
  | _, _ => none
def z_wr (st : zS) (S : List Nat) (F : List (Nat × Nat × Nat × Nat)) (E : List (Nat × Nat × Nat)) : zS := (z_L st, S, z_n st, z_V st, F, E, z_R st, z_X st, z_C st, z_ph st)
def z_putf (TY : List zTy) (cl : List vw_C) (FT : Nat → Nat → FieldType) (ini : Option Nat) (FL : List (Nat × Nat × Nat)) (st : zS) (i : Nat) : Option zS := match z_S st, FL.find? (fun q => Nat.beq q.1 i) with
  | v :: d :: S, some q => (match z_get (z_V st) v, cl[q.2.1]? with
    | some c, some r => cond (z_fit (FT q.2.1 q.2.2) c && (!((r.2.1 q.2.2).2.2.2) || (match ini with | some j => Nat.beq j q.2.1 | none => false)) &&
        (match z_get (z_V st) d with
          | some (.inr (.inl t)) => (match TY[t]? with
            | some (.inl o) => (match o.2[q.2.2]? with
              | some c0 => Nat.beq o.1 q.2.1 && z_le c c0 && !((r.2.1 q.2.2).2.2.2)
              | none => false)
            | _ => false)
          | none => (z_X st).any (fun p => Nat.beq p.1 d && Nat.beq p.2 q.2.1)
          | _ => false))
        (some (z_wr st S ((d, q.2.1, q.2.2, v) :: (z_F st).filter (fun f => z_apt st f.1 d || (Nat.beq f.2.1 q.2.1 && !(Nat.beq f.2.2.1 q.2.2)))) ((z_E st).filter (fun f => z_apt st f.1 d)))) none
    | _, _ => none)
  | _, _ => none
section ZFIELDS2
variable {p : Program} {l : Launch} {e : Env} {R : Room} {s : State} {m : MethodId} {args : Array Value} {below : List Frame} {meth : Method} {c : Code} {Q : State → Prop} {cc : ByteArray} {pc : Nat}
variable {OB : Nat → Nat} {D : va_G} {DA : Nat → ClassId} {cl : List vw_C} {TY : List zTy} {PHI : List (List Nat)} {sz : Nat} {raw : Option Nat} {pu : Bool} {T0 : zTp} {H0 : Heap} {env0 : List Value} {nL : Nat} {st st' : zS} {good : Nat → zS → Prop}
variable {Ts : List Cond} {own : String} {FT : Nat → Nat → FieldType} {FL : List (Nat × Nat × Nat)} {tys : List (ClassId × FieldType)}
variable {T : zTp} {H : Heap} {locs : List Loc} {env : List Value} {ls : Array Slot} {stk : List Value} {cells slots : Nat} {rest : List Value}
theorem z_sat_ld (h : z_sat OB D DA cl TY PHI sz raw pu T0 H0 env0 nL st T H locs env ls stk) {S : List Nat} {k : List Value} (hS : z_stk env S k) {c : zV} {v : Value} (hv : z_v OB T c v) {fs : List (Nat × Nat × Nat × Nat)} (hf : z_ff D cl H (env ++ [v]) fs) {es : List (Nat × Nat × Nat)} (he : z_fe H (env ++ [v]) es) :
    z_sat OB D DA cl TY PHI sz raw pu T0 H0 env0 nL (z_ld st S c fs es) T H locs (env ++ [v]) ls (v :: k) := by
  obtain ⟨h1, h2, h3, h4, h5, h6, h7, h8, h9, h10⟩ := z_sat_psh h hS hv (rs := []) (fun q hq => absurd hq List.not_mem_nil)
  refine ⟨h1, h2, h3, h4, h5, fun q hq => ?_, fun q hq => ?_, h8, h9, h10⟩
  · rcases List.mem_append.mp hq with hq | hq
    · exact hf q hq
    · exact h6 q hq
  · rcases List.mem_append.mp hq with hq | hq
    · exact he q hq
    · exact h7 q hq
theorem z_r_getf (hg : z_Good p l e R s m args below meth c Q OB D DA cl TY PHI sz raw pu T0 H0 env0 nL good) (hx : p.tables.exec = Jvm.exec) (hb : c.code = cc) (hSt : z_St Ts cl FT own FL) (hD : z_Dy s m args Ts own D cl DA tys) {i : Nat} (hd : decode cc pc = .ok (.getfield i, 3)) (h : z_getf TY FL st i = some st') (k : good (pc + 3) st') : good pc st := by
  refine (hg _ _).mpr fun T H locs env ls stk hs => ?_
  unfold z_getf at h
  split at h
  · rename_i d S q hS hq
    have hm := List.mem_of_find?_eq_some hq
    have hi0 := List.find?_some hq
    have hi : q.1 = i := z_beq hi0
    obtain ⟨v, kk, rfl, e1, hk⟩ := z_stk_cons hS hs.2.2.2.1
    split at h
    · rename_i w hw hr
      cases h
      obtain ⟨a, v2, g1, g2, g3⟩ := z_ffind_ok hw hs
      rw [e1] at g1
      cases g1
      exact z_getrow hx hb hSt hD hm g3 (by rw [hi]; exact hd) ((hg _ _).mp k T H locs env ls _ (z_sat_stS hs ⟨_, _, rfl, g2, hk⟩))
    · split at h
      · rename_i t ht
        split at h
        · rename_i o ho
          split at h
          · rename_i c0 hc0
            obtain ⟨hb1, rfl⟩ := z_cond h
            have ho1 := z_beq hb1
            obtain ⟨ci, fl⟩ := o
            have ho1 : ci = q.2.1 := ho1
            subst ho1
            obtain ⟨a, r, V, g1, g2, g3, g4, g5, g6⟩ := z_obj hs ht ho
            rw [e1] at g1
            cases g1
            have hlt : q.2.2 < r.2.2 := by rw [← g4]; exact (List.getElem?_eq_some_iff.mp hc0).1
            have hsl : z_sl H a (D.2 q.2.1 q.2.2) (V q.2.2) := by
              obtain ⟨cell, x1, x2, x3, x4⟩ := g5
              exact ⟨cell, x1, x3, x4 _ hlt⟩
            have hn : (env ++ [V q.2.2])[z_n st]? = some (V q.2.2) := by rw [← hs.1]; simp
            refine z_getrow hx hb hSt hD hm hsl (by rw [hi]; exact hd) ((hg _ _).mp k T H locs _ ls _ (z_sat_ld hs hk (g6 _ _ hc0) (fun f hf => ?_) (fun f hf => absurd hf List.not_mem_nil)))
            rw [List.mem_singleton.mp hf]
            exact ⟨a, _, r, z_app e1, hn, g3, hlt, hsl⟩
          · cases h
        · cases h
      · cases h
    · cases h
  · cases h
theorem z_sl_kept0 {H1 : Heap} {a k : Nat} {w : Value} (h : z_sl H a k w) (e : H1[a]? = H[a]?) : z_sl H1 a k w := by
  obtain ⟨cell, h1, h2, h3⟩ := h
  exact ⟨cell, by rw [e]; exact h1, h2, h3⟩
/-- a typed cell is written -/
theorem z_mem_set (hpu : pu = false) {ph k : Nat} {H1 : Heap} {a t : Nat} {ty : zTy} (h : z_mem OB D DA cl TY PHI sz raw pu T0 H0 T H locs ph) (ht : T a = some t) (hty : TY[t]? = some ty) (hc : z_cell OB D DA cl T H1 a ty) (hz : H1.size = H.size) (oq : ∀ b : Nat, b ≠ a → H1[b]? = H[b]?) (hfw : ∀ ci fl r k w, ty = .inl (ci, fl) → cl[ci]? = some r → k < r.2.2 → (r.2.1 k).2.2.2 = true → z_sl H a (D.2 ci k) w → z_sl H1 a (D.2 ci k) w) : z_mem OB D DA cl TY PHI sz raw pu T0 H0 T H1 (locs ++ [⟨a, k⟩]) ph := by
  obtain ⟨h1, h2, h3, h4, h5⟩ := h
  refine ⟨fun b u hb => ?_, ⟨h2.1, (fun h => by rw [hpu] at h; cases h), z_fin_tr h2.2.2 fun b u ci fl hb hty2 => ⟨u, fl, hb, hty2, fun r k2 w x1 x2 x3 x4 => ?_⟩⟩, h3, fun q hq1 hq2 hq3 => ?_, h5.put hz oq (h2.1 a t ht)⟩
  · by_cases e : b = a
    · subst e
      rw [ht] at hb
      cases hb
      exact ⟨ty, hty, hc⟩
    · obtain ⟨ty2, g1, g2⟩ := h1 b u hb
      exact ⟨ty2, g1, z_cell_kept g2 (oq b e)⟩
  · by_cases e : b = a
    · subst e
      rw [ht] at hb
      cases hb
      rw [hty] at hty2
      exact hfw ci fl r k2 w (Option.some.inj hty2) x1 x2 x3 x4
    · exact z_sl_kept0 x4 (oq b e)
  · obtain ⟨g1, g2⟩ := h4 q hq1 hq2 hq3
    refine ⟨g1, ?_⟩
    rw [oq q (fun e => by subst e; rw [g1] at ht; cases ht)]
    exact g2
/-- a raw cell is written -/
theorem z_mem_setX (hpu : pu = false) {ph k : Nat} {H1 : Heap} {a : Nat} (h : z_mem OB D DA cl TY PHI sz raw pu T0 H0 T H locs ph) (ht : T a = none) (ha : sz ≤ a ∧ (H0.size ≤ a ∨ raw = some a)) (hz : H1.size = H.size) (oq : ∀ b : Nat, b ≠ a → H1[b]? = H[b]?) : z_mem OB D DA cl TY PHI sz raw pu T0 H0 T H1 (locs ++ [⟨a, k⟩]) ph := by
  obtain ⟨h1, h2, h3, h4, h5⟩ := h
  refine ⟨fun b u hb => ?_, ⟨h2.1, (fun h => by rw [hpu] at h; cases h), z_fin_tr h2.2.2 fun b u ci fl hb hty2 => ⟨u, fl, hb, hty2, fun r k2 w x1 x2 x3 x4 => z_sl_kept0 x4 (oq b (fun e => by subst e; rw [hb] at ht; cases ht))⟩⟩, h3, fun q hq1 hq2 hq3 => ?_, h5.put hz oq ha.1⟩
  · obtain ⟨ty2, g1, g2⟩ := h1 b u hb
    exact ⟨ty2, g1, z_cell_kept g2 (oq b (fun e => by subst e; rw [hb] at ht; cases ht))⟩
  · obtain ⟨g1, g2⟩ := h4 q hq1 hq2 hq3
    refine ⟨g1, ?_⟩
    rw [oq q (fun e => by
      subst e
      rcases ha.2 with h | h
      · omega
      · exact hq3 h)]
    exact g2
theorem z_fx_upd {n0 : Nat} {H1 : Heap} {a : Nat} (oq : ∀ b : Nat, b ≠ a → H1[b]? = H[b]?) (ha : ∀ (cC : ClassId) (N : Nat) (iS : Nat → Nat) (V : Nat → Value), t_OB a cC N iS H V → ∃ V', t_OB a cC N iS H1 V') : ∀ {X : List (Nat × Nat)}, z_fx D cl T sz n0 raw H env X → z_fx D cl T sz n0 raw H1 env X
  | [], h => h
  | x :: X, ⟨⟨b, h1, h2, h3, ⟨r, V, h4, h4b⟩, h5⟩, hr⟩ => by
    refine ⟨⟨b, h1, h2, h3, ?_, h5⟩, z_fx_upd oq ha hr⟩
    by_cases e : b = a
    · subst e
      obtain ⟨V', hV⟩ := ha _ _ _ _ h4b
      exact ⟨r, V', h4, hV⟩
    · exact ⟨r, V, h4, h4b.kept (oq b e)⟩
theorem z_r_putf (hpu : pu = false) (hg : z_Good p l e R s m args below meth c Q OB D DA cl TY PHI sz raw pu T0 H0 env0 nL good) (hx : p.tables.exec = Jvm.exec) (hb : c.code = cc) (hSt : z_St Ts cl FT own FL) (hD : z_Dy s m args Ts own D cl DA tys) {ini : Option Nat} (hini : ∀ j r, ini = some j → cl[j]? = some r → meth.name = "<init>" ∧ r.1 = own) {i : Nat} (hd : decode cc pc = .ok (.putfield i, 3)) (h : z_putf TY cl FT ini FL st i = some st') (k : good (pc + 3) st') : good pc st := by
  refine (hg _ _).mpr fun T H locs env ls stk hs => ?_
  unfold z_putf at h
  split at h
  · rename_i v d S q hS hq
    have hm := List.mem_of_find?_eq_some hq
    have hi0 := List.find?_some hq
    have hi : q.1 = i := z_beq hi0
    split at h
    · rename_i c1 r hc1 hr
      obtain ⟨hcc, rfl⟩ := z_cond h
      simp only [Bool.and_eq_true] at hcc
      obtain ⟨⟨hfit, hfin0⟩, hcase⟩ := hcc
      obtain ⟨vv, kk, rfl, e1, hk⟩ := z_stk_cons hS hs.2.2.2.1
      obtain ⟨vd, k2, rfl, e2, hk2⟩ := hk
      obtain ⟨w, e3, hw⟩ := z_get_ok hs.2.2.2.2.1 hc1
      have hvw : vv = w := Option.some.inj (e1.symm.trans e3)
      subst hvw
      have hnf := z_fit_ok hfit hw
      have hfin : (r.2.1 q.2.2).2.2.2 = false ∨ (meth.name = "<init>" ∧ r.1 = own) := by
        rw [Bool.or_eq_true] at hfin0
        rcases hfin0 with h1 | h1
        · exact Or.inl (by simpa using h1)
        · cases hin : ini with
          | none => rw [hin] at h1; cases h1
          | some j =>
            rw [hin] at h1
            have := z_beq h1
            subst this
            exact Or.inr (hini _ r hin hr)
      have fin : ∀ (a : Nat) (V : Nat → Value) (H1 : Heap) (cell : Cell), env[d]? = some (.ref a) → t_OB a (D.1 q.2.1) r.2.2 (D.2 q.2.1) H V → q.2.2 < r.2.2 → H[a]? = some cell → H1[a]? = some (cell.setSlot (D.2 q.2.1 q.2.2) vv) → H1.size = H.size → (∀ b : Nat, b ≠ a → H1[b]? = H[b]?) → t_OB a (D.1 q.2.1) r.2.2 (D.2 q.2.1) H1 (updV V q.2.2 vv) →
          z_mem OB D DA cl TY PHI sz raw pu T0 H0 T H1 (locs ++ [⟨a, D.2 q.2.1 q.2.2⟩]) (z_ph st) → W p l e R s m args below meth c H1 (locs ++ [⟨a, D.2 q.2.1 q.2.2⟩]) (z_C st).1 (z_C st).2 Q (F0 m (pc + 3) ls k2) := by
        intro a V H1 cell g1 g2 glt g3 g4 g5 g6 g7 g8
        refine (hg _ _).mp k T H1 _ env ls k2 ⟨hs.1, hs.2.1, hs.2.2.1, hk2, hs.2.2.2.2.1, fun f hf => ?_, fun f hf => ?_, hs.2.2.2.2.2.2.2.1, z_fx_upd g6 (fun cC N iS V2 h2 => z_ob_set h2 g3 g4) hs.2.2.2.2.2.2.2.2.1, g8⟩
        · rcases List.mem_cons.mp hf with rfl | hf
          · refine ⟨a, vv, r, g1, e1, hr, glt, ?_⟩
            obtain ⟨cell2, x1, x2, x3, x4⟩ := g7
            refine ⟨cell2, x1, x3, ?_⟩
            rw [x4 _ glt]
            simp [updV]
          · obtain ⟨hf1, hf2⟩ := List.mem_filter.mp hf
            obtain ⟨b, u, r2, y1, y2, y3, y4, y5⟩ := hs.2.2.2.2.2.1 f hf1
            refine ⟨b, u, r2, y1, y2, y3, y4, ?_⟩
            rw [Bool.or_eq_true] at hf2
            rcases hf2 with h1 | h1
            · exact z_sl_kept y5 (g6 b (z_apt_ok h1 hs y1 g1))
            · simp only [Bool.and_eq_true, Bool.not_eq_true'] at h1
              have ec := z_beq h1.1
              rw [ec] at y3 y5 ⊢
              rw [hr] at y3
              cases y3
              have hne : f.2.2.1 ≠ q.2.2 := by
                intro h3
                rw [h3] at h1
                simp at h1
              by_cases hba : b = a
              · subst hba
                obtain ⟨cell3, z1, z2, z3⟩ := y5
                rw [g3] at z1
                cases z1
                refine ⟨_, g4, z2, ?_⟩
                rw [slot_ne _ _ (z_apart hSt hD hr _ _ glt y4 (fun h => hne h.symm))]
                exact z3
              · exact z_sl_kept y5 (g6 b hba)
        · obtain ⟨hf1, hf2⟩ := List.mem_filter.mp hf
          obtain ⟨b, x, u, y1, y2, y3, y4, y5⟩ := hs.2.2.2.2.2.2.1 f hf1
          exact ⟨b, x, u, y1, y2, y3, y4, z_sl_kept y5 (g6 b (z_apt_ok hf2 hs y1 g1))⟩
      split at hcase
      · rename_i t ht
        split at hcase
        · rename_i o ho
          split at hcase
          · rename_i c0 hc0
            simp only [Bool.and_eq_true] at hcase
            obtain ⟨hcase, hnfin⟩ := hcase
            obtain ⟨ci, fl⟩ := o
            have ho1 : ci = q.2.1 := z_beq hcase.1
            subst ho1
            obtain ⟨a, r2, V, g1, g2, g3, g4, g5, g6⟩ := z_obj hs ht ho
            rw [hr] at g3
            cases g3
            rw [e2] at g1
            cases g1
            have hlt : q.2.2 < r.2.2 := by rw [← g4]; exact (List.getElem?_eq_some_iff.mp hc0).1
            refine z_putrow hx hb hSt hD hm hr g5 hfin hnf (by rw [hi]; exact hd) fun H1 cell x1 x2 x3 x4 x5 => ?_
            refine fin a V H1 cell e2 g5 hlt x1 x2 x3 x4 x5 (z_mem_set hpu hs.2.2.2.2.2.2.2.2.2 g2 ho ⟨r, hr, g4, _, x5, fun j c2 hj => ?_⟩ x3 x4 (fun ci2 fl2 r2 k2 w2 z1 z2 z3 z4 z5 => ?_))
            rotate_left
            · cases z1
              rw [hr] at z2
              cases z2
              have hkne : k2 ≠ q.2.2 := fun h => by rw [h] at z4; rw [z4] at hnfin; cases hnfin
              obtain ⟨cell3, u1, u2, u3⟩ := z5
              rw [x1] at u1
              cases u1
              refine ⟨_, x2, u2, ?_⟩
              rw [slot_ne _ _ (z_apart hSt hD hr _ _ hlt z3 (fun h => hkne h.symm))]
              exact u3
            by_cases hjk : j = q.2.2
            · subst hjk
              have hj : fl[q.2.2]? = some c2 := hj
              have hc0 : fl[q.2.2]? = some c0 := hc0
              rw [hc0] at hj
              cases hj
              have : updV V q.2.2 vv q.2.2 = vv := by simp [updV]
              rw [this]
              exact z_le_ok hcase.2 hw
            · have : updV V q.2.2 vv j = V j := by simp [updV, hjk]
              rw [this]
              exact g6 j c2 hj
          · cases hcase
        · cases hcase
      · rename_i hn
        obtain ⟨x, hx1, hx2⟩ := List.any_eq_true.mp hcase
        rw [Bool.and_eq_true] at hx2
        obtain ⟨a, g1, g2, g3, r2, V, g4, g5⟩ := z_fx_in hs.2.2.2.2.2.2.2.2.1 x hx1
        rw [z_beq hx2.1, e2] at g1
        cases g1
        rw [z_beq hx2.2] at g4 g5
        rw [hr] at g4
        cases g4
        have hlt : q.2.2 < r.2.2 := by
          obtain ⟨r3, y1, y2, _⟩ := hSt.2 q hm
          rw [hr] at y1
          cases y1
          exact y2
        refine z_putrow hx hb hSt hD hm hr g5 hfin hnf (by rw [hi]; exact hd) fun H1 cell x1 x2 x3 x4 x5 => ?_
        exact fin a V H1 cell e2 g5 hlt x1 x2 x3 x4 x5 (z_mem_setX hpu hs.2.2.2.2.2.2.2.2.2 g2 g3 x3 x4)
      · cases hcase
    · cases h
  · cases h
end ZFIELDS2
end
section
/-! Arrays read and written. -/
def z_seg (sg : List ((Nat × Nat) × zV)) (r : zR) : Option zV := (sg.find? (fun g => z_ile (g.1.1 : Int) r.1 && z_ile r.2 (g.1.2 : Int))).map (fun g => g.2)
def z_ald (TY : List zTy) (ek : Nat) (st : zS) : Option zS := match z_S st with
  | j :: d :: S => (match z_get (z_V st) j, z_get (z_V st) d with
    | some (.inl r), some (.inr (.inl t)) => (match TY[t]? with
      | some (.inr q) => cond (Nat.beq q.1 ek && z_ile 0 r.1 && z_ile (r.2 + 1) (q.2.1.1 : Int)) (match z_efind st d j with
        | some w => some (z_stS st (w :: S))
        | none => (match z_seg q.2.2 r with
          | some c => some (z_ld st S c [] [(d, j, z_n st)])
          | none => none)) none
      | _ => none)
    | _, _ => none)
  | _ => none
/-- what an array keeps of a value -/
def z_kep (ek : Nat) (c : zV) : Option zV := match ek, c with
  | 0, .inl r => some (.inl r)
  | 1, .inl r => some (.inl (z_i2b r))
  | 2, .inr (.inr 0) => some (.inr (.inr 0))
  | _, _ => none
def z_ast (TY : List zTy) (RO : List Nat) (ek : Nat) (st : zS) : Option zS := match z_S st with
  | v :: j :: d :: S => (match z_get (z_V st) j, z_get (z_V st) d, (z_get (z_V st) v).bind (z_kep ek) with
    | some (.inl r), some (.inr (.inl t)), some cv => (match TY[t]? with
      | some (.inr q) => cond (Nat.beq q.1 ek && z_ile 0 r.1 && z_ile (r.2 + 1) (q.2.1.1 : Int) && !(RO.any (fun x => Nat.beq x t)) && q.2.2.all (fun g => z_ile (r.2 + 1) (g.1.1 : Int) || z_ile ((g.1.2 : Int) + 1) r.1 || z_le cv g.2))
          (some (z_wr st S ((z_F st).filter (fun f => z_apt st f.1 d)) (cond (Nat.beq ek 1) [] [(d, j, v)] ++ (z_E st).filter (fun f => z_apt st f.1 d || z_dis st f.2.1 j)))) none
      | _ => none)
    | _, _, _ => none)
  | _ => none
def z_alen (TY : List zTy) (st : zS) : Option zS := match z_S st with
  | d :: S => (match z_get (z_V st) d with
    | some (.inr (.inl t)) => (match TY[t]? with
      | some (.inr q) => cond (Nat.ble q.1 2) (some (z_psh st S (.inl ((q.2.1.1 : Int), (q.2.1.2 : Int))) [])) none
      | _ => none)
    | _ => none)
  | _ => none
section ZARRAYS
variable {p : Program} {l : Launch} {e : Env} {R : Room} {s : State} {m : MethodId} {args : Array Value} {below : List Frame} {meth : Method} {c : Code} {Q : State → Prop} {cc : ByteArray} {pc : Nat}
variable {OB : Nat → Nat} {D : va_G} {DA : Nat → ClassId} {cl : List vw_C} {TY : List zTy} {PHI : List (List Nat)} {sz : Nat} {raw : Option Nat} {pu : Bool} {T0 : zTp} {H0 : Heap} {env0 : List Value} {nL : Nat} {st st' : zS} {good : Nat → zS → Prop}
variable {Ts : List Cond} {own : String} {tys : List (ClassId × FieldType)} {RO : List Nat}
variable {T : zTp} {H : Heap} {locs : List Loc} {env : List Value} {ls : Array Slot} {stk : List Value} {cells slots : Nat} {rest : List Value}
theorem z_isarr (hD : z_Dy s m args Ts own D cl DA tys) {k : Nat} (hk : k < 3) (n : Nat) (f : Nat → Value) : s.isArrayOf (arrV (DA k) n f) (z_ek k) := (hD.2.2.1.2 k _ (hD.2.2.2 k hk)).1 n f
theorem z_clamp (x : Int32) : x.toNatClampNeg = x.toInt.toNat := rfl
theorem z_vpin {x : Int32} {r : zR} {lo n : Nat} (hx : z_in r x) (h0 : z_ile 0 r.1 = true) (h1 : z_ile (r.2 + 1) (lo : Int) = true) (hn : lo ≤ n) : ¬ (x < 0 ∨ n ≤ x.toNatClampNeg) ∧ 0 ≤ x.toInt ∧ x.toInt.toNat < n := by
  have q0 := z_ile_ok h0
  have q1 := z_ile_ok h1
  obtain ⟨x1, x2⟩ := hx
  refine ⟨fun h => ?_, by omega, by omega⟩
  rcases h with h | h
  · have := Int32.lt_iff_toInt_lt.mp h
    have z0 : (0 : Int32).toInt = 0 := rfl
    omega
  · rw [z_clamp] at h; omega
/-- an entry is read -/
theorem z_ald_ok {ek : Nat} (hek : ek < 3) (hD : z_Dy s m args Ts own D cl DA tys) (h : z_ald TY ek st = some st') (hs : z_sat OB D DA cl TY PHI sz raw pu T0 H0 env0 nL st T H locs env ls stk) :
    ∃ (a n : Nat) (f : Nat → Value) (x : Int32) (k : List Value) (env' : List Value), stk = .int x :: .ref a :: k ∧ H[a]? = some (arrV (DA ek) n f) ∧ ¬ (x < 0 ∨ n ≤ x.toNatClampNeg) ∧ z_C st' = z_C st ∧ (arrV (DA ek) n f).slots[x.toNatClampNeg]? = some (f x.toNatClampNeg) ∧
      z_sat OB D DA cl TY PHI sz raw pu T0 H0 env0 nL st' T H locs env' ls (f x.toNatClampNeg :: k) := by
  unfold z_ald at h
  split at h
  · rename_i j d S hS
    split at h
    · rename_i r t hj ht
      split at h
      · rename_i q hq
        cases hc : (Nat.beq q.1 ek && z_ile 0 r.1 && z_ile (r.2 + 1) (q.2.1.1 : Int)) with
        | false => rw [hc] at h; cases h
        | true =>
          rw [hc] at h
          simp only [Bool.and_eq_true] at hc
          obtain ⟨⟨hc1, hc2⟩, hc3⟩ := hc
          obtain ⟨ek2, ⟨lo, hi⟩, sg⟩ := q
          have he : ek2 = ek := z_beq hc1
          subst he
          obtain ⟨vj, k1, rfl, e1, hk1⟩ := z_stk_cons hS hs.2.2.2.1
          obtain ⟨vd, k2, rfl, e2, hk2⟩ := hk1
          obtain ⟨a, n, f, g1, g2, g3, g4, g5, g6, g7⟩ := z_arr hs ht hq
          obtain ⟨w, e3, x, rfl, hx⟩ := z_get_ok hs.2.2.2.2.1 hj
          have q1 : vj = .int x := Option.some.inj (e1.symm.trans e3)
          have q2 : vd = .ref a := Option.some.inj (e2.symm.trans g1)
          subst q1; subst q2
          obtain ⟨b1, b2, b3⟩ := z_vpin hx hc2 hc3 g4
          have hread := arrV_read (DA ek2) f b3
          have hsl : z_sl H a x.toInt.toNat (f x.toInt.toNat) := ⟨_, g3, rfl, hread⟩
          have h : (match z_efind st d j with
            | some w => some (z_stS st (w :: S))
            | none => (match z_seg sg r with
              | some c => some (z_ld st S c [] [(d, j, z_n st)])
              | none => none)) = some st' := h
          cases hf : z_efind st d j with
          | some w =>
            rw [hf] at h
            cases h
            obtain ⟨a2, v2, y1, y2, y3, cell, y4, y5, y6⟩ := z_efind_ok hf hs e3
            rw [g1] at y1
            cases y1
            rw [g3] at y4
            cases y4
            rw [hread] at y6
            cases y6
            exact ⟨a, n, f, x, k2, env, rfl, g3, b1, rfl, hread, z_sat_stS hs ⟨_, _, rfl, y2, hk2⟩⟩
          | none =>
            rw [hf] at h
            cases hsg : z_seg sg r with
            | none => rw [hsg] at h; cases h
            | some c1 =>
              rw [hsg] at h
              cases h
              unfold z_seg at hsg
              cases hfi : sg.find? (fun g => z_ile (g.1.1 : Int) r.1 && z_ile r.2 (g.1.2 : Int)) with
              | none => rw [hfi] at hsg; cases hsg
              | some g =>
                rw [hfi] at hsg
                cases hsg
                have hm := List.mem_of_find?_eq_some hfi
                have hp := List.find?_some hfi
                rw [Bool.and_eq_true] at hp
                have p1 := z_ile_ok hp.1
                have p2 := z_ile_ok hp.2
                obtain ⟨x1, x2⟩ := hx
                have hv := g7 g hm x.toInt.toNat b3 (by omega) (by omega)
                refine ⟨a, n, f, x, k2, _, rfl, g3, b1, rfl, hread, z_sat_ld hs hk2 hv (fun f hf => absurd hf List.not_mem_nil) (fun f2 hf2 => ?_)⟩
                rw [List.mem_singleton.mp hf2]
                exact ⟨a, x, _, z_app g1, z_app e3, b2, by rw [← hs.1]; simp, hsl⟩
      · cases h
    · cases h
  · cases h
theorem z_r_iald (hg : z_Good p l e R s m args below meth c Q OB D DA cl TY PHI sz raw pu T0 H0 env0 nL good) (hx : p.tables.exec = Jvm.exec) (hb : c.code = cc) (hD : z_Dy s m args Ts own D cl DA tys) (hd : decode cc pc = .ok (.iaload, 1)) (h : z_ald TY 0 st = some st') (k : good (pc + 1) st') : good pc st := by
  refine (hg _ _).mpr fun T H locs env ls stk hs => ?_
  obtain ⟨a, n, f, x, k2, env', rfl, h1, h2, h3, h4, h5⟩ := z_ald_ok (by omega) hD h hs
  refine W.iald hx hb h1 (z_isarr hD (k := 0) (by omega) n f) (fun q => by cases q) (by rw [arrV_size]; exact h2) h4 rfl rfl hd ?_
  have kk := (hg _ _).mp k T H locs env' ls _ h5
  rwa [h3] at kk
theorem z_r_bald (hg : z_Good p l e R s m args below meth c Q OB D DA cl TY PHI sz raw pu T0 H0 env0 nL good) (hx : p.tables.exec = Jvm.exec) (hb : c.code = cc) (hD : z_Dy s m args Ts own D cl DA tys) (hd : decode cc pc = .ok (.baload, 1)) (h : z_ald TY 1 st = some st') (k : good (pc + 1) st') : good pc st := by
  refine (hg _ _).mpr fun T H locs env ls stk hs => ?_
  obtain ⟨a, n, f, x, k2, env', rfl, h1, h2, h3, h4, h5⟩ := z_ald_ok (by omega) hD h hs
  refine W.bald hx hb h1 (z_isarr hD (k := 1) (by omega) n f) (fun q => by cases q) (by rw [arrV_size]; exact h2) h4 rfl rfl hd ?_
  have kk := (hg _ _).mp k T H locs env' ls _ h5
  rwa [h3] at kk
theorem z_r_lald (hg : z_Good p l e R s m args below meth c Q OB D DA cl TY PHI sz raw pu T0 H0 env0 nL good) (hx : p.tables.exec = Jvm.exec) (hb : c.code = cc) (hD : z_Dy s m args Ts own D cl DA tys) (hd : decode cc pc = .ok (.laload, 1)) (h : z_ald TY 2 st = some st') (k : good (pc + 1) st') : good pc st := by
  refine (hg _ _).mpr fun T H locs env ls stk hs => ?_
  obtain ⟨a, n, f, x, k2, env', rfl, h1, h2, h3, h4, h5⟩ := z_ald_ok (by omega) hD h hs
  refine W.lald hx hb h1 (z_isarr hD (k := 2) (by omega) n f) (fun q => by cases q) (by rw [arrV_size]; exact h2) h4 rfl rfl hd ?_
  have kk := (hg _ _).mp k T H locs env' ls _ h5
  rwa [h3] at kk
/-- an entry is set -/
theorem z_ast_ok (hpu : pu = false) {ek : Nat} (hek : ek < 3) (h : z_ast TY RO ek st = some st') (hs : z_sat OB D DA cl TY PHI sz raw pu T0 H0 env0 nL st T H locs env ls stk) :
    ∃ (a n : Nat) (f : Nat → Value) (x : Int32) (k : List Value) (v : Value), stk = v :: .int x :: .ref a :: k ∧ (ek < 2 → ∃ y : Int32, v = .int y) ∧ (ek = 2 → ∃ y : Int64, v = .long y) ∧ H[a]? = some (arrV (DA ek) n f) ∧ ¬ (x < 0 ∨ n ≤ x.toNatClampNeg) ∧ z_C st' = z_C st ∧
      ∀ H1 : Heap, H1[a]? = some ((arrV (DA ek) n f).setSlot x.toNatClampNeg (narrow (z_ek ek) v)) → H1.size = H.size → (∀ b : Nat, b ≠ a → H1[b]? = H[b]?) → z_sat OB D DA cl TY PHI sz raw pu T0 H0 env0 nL st' T H1 (locs ++ [⟨a, x.toNatClampNeg⟩]) env ls k := by
  unfold z_ast at h
  split at h
  · rename_i v j d S hS
    split at h
    · rename_i r t cv hj ht hcv
      split at h
      · rename_i q hq
        obtain ⟨hc, rfl⟩ := z_cond h
        simp only [Bool.and_eq_true] at hc
        obtain ⟨⟨⟨⟨hc1, hc2⟩, hc3⟩, hc4⟩, hc5⟩ := hc
        obtain ⟨ek2, ⟨lo, hi⟩, sg⟩ := q
        have he : ek2 = ek := z_beq hc1
        subst he
        obtain ⟨vv, k0, rfl, e0, hk0⟩ := z_stk_cons hS hs.2.2.2.1
        obtain ⟨vj, k1, rfl, e1, hk1⟩ := hk0
        obtain ⟨vd, k2, rfl, e2, hk2⟩ := hk1
        obtain ⟨a, n, f, g1, g2, g3, g4, g5, g6, g7⟩ := z_arr hs ht hq
        obtain ⟨w, e3, x, rfl, hx⟩ := z_get_ok hs.2.2.2.2.1 hj
        have q1 : vj = .int x := Option.some.inj (e1.symm.trans e3)
        have q2 : vd = .ref a := Option.some.inj (e2.symm.trans g1)
        subst q1; subst q2
        obtain ⟨b1, b2, b3⟩ := z_vpin hx hc2 hc3 g4
        cases hgv : z_get (z_V st) v with
        | none => rw [hgv] at hcv; cases hcv
        | some c0 =>
          rw [hgv] at hcv
          have hcv : z_kep ek2 c0 = some cv := hcv
          obtain ⟨w2, e4, hw2⟩ := z_get_ok hs.2.2.2.2.1 hgv
          have q3 : vv = w2 := Option.some.inj (e0.symm.trans e4)
          subst q3
          have hval : (ek2 < 2 → ∃ y : Int32, vv = .int y) ∧ (ek2 = 2 → ∃ y : Int64, vv = .long y) ∧ z_v OB T cv (narrow (z_ek ek2) vv) ∧ (ek2 ≠ 1 → narrow (z_ek ek2) vv = vv) := by
            match ek2, c0, hcv, hw2 with
            | 0, .inl r0, hcv, hw2 =>
              cases hcv
              obtain ⟨y, rfl, hy⟩ := hw2
              exact ⟨fun _ => ⟨y, rfl⟩, fun h => (by cases h), ⟨y, rfl, hy⟩, fun _ => rfl⟩
            | 1, .inl r0, hcv, hw2 =>
              cases hcv
              obtain ⟨y, rfl, hy⟩ := hw2
              exact ⟨fun _ => ⟨y, rfl⟩, fun h => (by cases h), ⟨_, rfl, z_i2b_ok hy⟩, fun h => absurd rfl h⟩
            | 2, .inr (.inr 0), hcv, hw2 =>
              cases hcv
              obtain ⟨y, rfl⟩ := hw2
              exact ⟨fun h => absurd h (by omega), fun _ => ⟨y, rfl⟩, ⟨y, rfl⟩, fun _ => rfl⟩
          obtain ⟨v1, v2, v3, v4⟩ := hval
          refine ⟨a, n, f, x, k2, vv, rfl, v1, v2, g3, b1, rfl, fun H1 h1 h2 h3 => ?_⟩
          have h1' : H1[a]? = some (arrV (DA ek2) n (updV f x.toNatClampNeg (narrow (z_ek ek2) vv))) := by rw [h1, arrV_store]
          have hcell : z_cell OB D DA cl T H1 a (.inr (ek2, (lo, hi), sg)) := by
            refine ⟨n, _, h1', g4, g5, g6, fun g hg i hi1 hi2 hi3 => ?_⟩
            by_cases hie : i = x.toNatClampNeg
            · have : updV f x.toNatClampNeg (narrow (z_ek ek2) vv) i = narrow (z_ek ek2) vv := by simp [updV, hie]
              rw [this]
              have hall := List.all_eq_true.mp hc5 g hg
              simp only [Bool.or_eq_true] at hall
              rw [z_clamp] at hie
              obtain ⟨x1, x2⟩ := hx
              rcases hall with (h5 | h5) | h5
              · have := z_ile_ok h5; omega
              · have := z_ile_ok h5; omega
              · exact z_le_ok h5 v3
            · have : updV f x.toNatClampNeg (narrow (z_ek ek2) vv) i = f i := by simp [updV, hie]
              rw [this]
              exact g7 g hg i hi1 hi2 hi3
          refine ⟨hs.1, hs.2.1, hs.2.2.1, hk2, hs.2.2.2.2.1, fun f1 hf => ?_, fun f1 hf => ?_, hs.2.2.2.2.2.2.2.1, z_fx_upd h3 (fun cC N iS V2 h5 => z_ob_set h5 g3 h1) hs.2.2.2.2.2.2.2.2.1, z_mem_set hpu hs.2.2.2.2.2.2.2.2.2 g2 hq hcell h2 h3 (fun _ _ _ _ _ hh => by cases hh)⟩
          · obtain ⟨hf1, hf2⟩ := List.mem_filter.mp hf
            obtain ⟨b, u, r2, y1, y2, y3, y4, y5⟩ := hs.2.2.2.2.2.1 f1 hf1
            exact ⟨b, u, r2, y1, y2, y3, y4, z_sl_kept y5 (h3 b (z_apt_ok hf2 hs y1 g1))⟩
          · rcases List.mem_append.mp hf with hf | hf
            · cases hb1 : Nat.beq ek2 1 with
              | true => rw [hb1] at hf; exact absurd hf List.not_mem_nil
              | false =>
                rw [hb1] at hf
                rw [List.mem_singleton.mp hf]
                have hne : ek2 ≠ 1 := fun h => by rw [h] at hb1; cases hb1
                refine ⟨a, x, vv, g1, e3, b2, e4, _, h1', rfl, ?_⟩
                rw [arrV_read _ _ b3, v4 hne]
                show some (if x.toInt.toNat = x.toNatClampNeg then vv else _) = _
                rw [if_pos (z_clamp x).symm]
            · obtain ⟨hf1, hf2⟩ := List.mem_filter.mp hf
              obtain ⟨b, x2, u, y1, y2, y3, y4, y5⟩ := hs.2.2.2.2.2.2.1 f1 hf1
              refine ⟨b, x2, u, y1, y2, y3, y4, ?_⟩
              rw [Bool.or_eq_true] at hf2
              rcases hf2 with h5 | h5
              · exact z_sl_kept y5 (h3 b (z_apt_ok h5 hs y1 g1))
              · by_cases hba : b = a
                · subst hba
                  have hxx := z_dis_ok h5 hs y2 e3
                  obtain ⟨cell, z1, z2, z3⟩ := y5
                  rw [g3] at z1
                  cases z1
                  refine ⟨_, h1, rfl, ?_⟩
                  rw [slot_ne _ _ (fun h6 => hxx (by rw [z_clamp] at h6; omega))]
                  exact z3
                · exact z_sl_kept y5 (h3 b hba)
      · cases h
    · cases h
  · cases h
theorem z_r_iast (hpu : pu = false) (hg : z_Good p l e R s m args below meth c Q OB D DA cl TY PHI sz raw pu T0 H0 env0 nL good) (hx : p.tables.exec = Jvm.exec) (hb : c.code = cc) (hD : z_Dy s m args Ts own D cl DA tys) (hd : decode cc pc = .ok (.iastore, 1)) (h : z_ast TY RO 0 st = some st') (k : good (pc + 1) st') : good pc st := by
  refine (hg _ _).mpr fun T H locs env ls stk hs => ?_
  obtain ⟨a, n, f, x, k2, v, rfl, h0, -, h1, h2, h3, h4⟩ := z_ast_ok hpu (by omega) h hs
  obtain ⟨y, rfl⟩ := h0 (by omega)
  refine W.iast hx hb h1 (z_isarr hD (k := 0) (by omega) n f) (fun q => by cases q) (by rw [arrV_size]; exact h2) rfl rfl hd fun H1 e1 e2 e3 => ?_
  have kk := (hg _ _).mp k T H1 _ env ls _ (h4 H1 e1 e2 e3)
  rwa [h3] at kk
theorem z_r_bast (hpu : pu = false) (hg : z_Good p l e R s m args below meth c Q OB D DA cl TY PHI sz raw pu T0 H0 env0 nL good) (hx : p.tables.exec = Jvm.exec) (hb : c.code = cc) (hD : z_Dy s m args Ts own D cl DA tys) (hd : decode cc pc = .ok (.bastore, 1)) (h : z_ast TY RO 1 st = some st') (k : good (pc + 1) st') : good pc st := by
  refine (hg _ _).mpr fun T H locs env ls stk hs => ?_
  obtain ⟨a, n, f, x, k2, v, rfl, h0, -, h1, h2, h3, h4⟩ := z_ast_ok hpu (by omega) h hs
  obtain ⟨y, rfl⟩ := h0 (by omega)
  refine W.bast hx hb h1 (z_isarr hD (k := 1) (by omega) n f) (fun q => by cases q) (by rw [arrV_size]; exact h2) rfl rfl hd fun H1 e1 e2 e3 => ?_
  have kk := (hg _ _).mp k T H1 _ env ls _ (h4 H1 e1 e2 e3)
  rwa [h3] at kk
theorem z_r_last (hpu : pu = false) (hg : z_Good p l e R s m args below meth c Q OB D DA cl TY PHI sz raw pu T0 H0 env0 nL good) (hx : p.tables.exec = Jvm.exec) (hb : c.code = cc) (hD : z_Dy s m args Ts own D cl DA tys) (hd : decode cc pc = .ok (.lastore, 1)) (h : z_ast TY RO 2 st = some st') (k : good (pc + 1) st') : good pc st := by
  refine (hg _ _).mpr fun T H locs env ls stk hs => ?_
  obtain ⟨a, n, f, x, k2, v, rfl, -, h0, h1, h2, h3, h4⟩ := z_ast_ok hpu (by omega) h hs
  obtain ⟨y, rfl⟩ := h0 rfl
  refine W.last hx hb h1 (z_isarr hD (k := 2) (by omega) n f) (fun q => by cases q) (by rw [arrV_size]; exact h2) rfl rfl hd fun H1 e1 e2 e3 => ?_
  have kk := (hg _ _).mp k T H1 _ env ls _ (h4 H1 e1 e2 e3)
  rwa [h3] at kk
theorem z_r_alen (hg : z_Good p l e R s m args below meth c Q OB D DA cl TY PHI sz raw pu T0 H0 env0 nL good) (hx : p.tables.exec = Jvm.exec) (hb : c.code = cc) (hD : z_Dy s m args Ts own D cl DA tys) (hd : decode cc pc = .ok (.arraylength, 1)) (h : z_alen TY st = some st') (k : good (pc + 1) st') : good pc st := by
  refine (hg _ _).mpr fun T H locs env ls stk hs => ?_
  unfold z_alen at h
  split at h
  · rename_i d S hS
    split at h
    · rename_i t ht
      split at h
      · rename_i q hq
        obtain ⟨hc, rfl⟩ := z_cond h
        obtain ⟨ek, ⟨lo, hi⟩, sg⟩ := q
        have hek : ek ≤ 2 := Nat.le_of_ble_eq_true hc
        obtain ⟨vd, k2, rfl, e2, hk2⟩ := z_stk_cons hS hs.2.2.2.1
        obtain ⟨a, n, f, g1, g2, g3, g4, g5, g6, g7⟩ := z_arr hs ht hq
        have q2 : vd = .ref a := Option.some.inj (e2.symm.trans g1)
        subst q2
        have hn : (Int32.ofNat n).toInt = (n : Int) := Int32.toInt_ofNat_of_lt (by omega)
        refine W.alen (n := Int32.ofNat n) hx hb g3 (z_isarr hD (k := ek) (by omega) n f) (by rw [arrV_size]) rfl rfl hd ?_
        exact (hg _ _).mp k T H locs _ ls _ (z_sat_psh hs hk2 (z_vi ⟨by rw [hn]; show (lo : Int) ≤ _; omega, by rw [hn]; show _ ≤ (hi : Int); omega⟩) (fun q hq => absurd hq List.not_mem_nil))
      · cases h
    · cases h
  · cases h
end ZARRAYS
end
section
/-! New cells; a new object becomes one of a type; types made wider. -/
def z_T1 (T : zTp) (a t : Nat) : zTp := fun q => if q = a then some t else T q
def z_at (t : ArrayType) : Option Nat := match t with
  | .int => some 0
  | .byte => some 1
  | .long => some 2
  | _ => none
def z_dfl (ek : Nat) : zV := match ek with
  | 0 => .inl (0, 0)
  | 1 => .inl (0, 0)
  | _ => .inr (.inr 0)
def z_nwa (TY : List zTy) (mc ms : Nat) (tau : Nat) (ek : Nat) (st : zS) : Option zS := match z_S st with
  | x :: S => (match z_get (z_V st) x with
    | some (.inl r) => (match TY[tau]? with
      | some (.inr q) => cond (z_ile 0 r.1 && z_ile r.2 r.1 && Nat.ble r.1.toNat 1000000 && Nat.beq q.1 ek && Nat.ble q.2.1.1 r.1.toNat && Nat.ble r.1.toNat q.2.1.2 && q.2.2.all (fun g => z_le (z_dfl ek) g.2) && Nat.ble ((z_C st).1 + 1) mc && Nat.ble ((z_C st).2 + r.1.toNat) ms)
          (some (z_L st, z_n st :: S, z_n st + 1, (z_n st, .inr (.inl tau)) :: z_V st, z_F st, z_E st, z_R st, z_X st, ((z_C st).1 + 1, (z_C st).2 + r.1.toNat), z_ph st)) none
      | _ => none)
    | _ => none)
  | _ => none
def z_zf (ty : FieldType) : Bool := match ty with
  | .int => true
  | .boolean => true
  | _ => false
def z_new (CL : List (Nat × Nat)) (cl : List vw_C) (FT : Nat → Nat → FieldType) (mc ms : Nat) (st : zS) (i : Nat) : Option zS := match CL.find? (fun q => Nat.beq q.1 i) with
  | some q => (match cl[q.2]? with
    | some r => cond (Nat.ble ((z_C st).1 + 1) mc && Nat.ble ((z_C st).2 + r.2.2) ms)
        (some (z_L st, z_n st :: z_S st, z_n st + 2, (z_n st + 1, .inl (0, 0)) :: z_V st, ((List.range r.2.2).filter (fun k => z_zf (FT q.2 k))).map (fun k => (z_n st, q.2, k, z_n st + 1)) ++ z_F st, z_E st, z_R st, (z_n st, q.2) :: z_X st, ((z_C st).1 + 1, (z_C st).2 + r.2.2), z_ph st)) none
    | none => none)
  | none => none
def z_pub (TY : List zTy) (st : zS) (d tau : Nat) : Option zS := match (z_X st).find? (fun q => Nat.beq q.1 d), TY[tau]? with
  | some q, some (.inl o) => cond (Nat.beq o.1 q.2 && (List.range o.2.length).all (fun k => match o.2[k]?, z_ffind st d q.2 k with
      | some c, some w => (match z_get (z_V st) w with
        | some cw => z_le cw c
        | none => false)
      | _, _ => false)) (some (z_L st, z_S st, z_n st, (d, .inr (.inl tau)) :: z_V st, z_F st, z_E st, z_R st, (z_X st).filter (fun p => !(Nat.beq p.1 d)), z_C st, z_ph st)) none
  | _, _ => none
section ZMAKES
variable {p : Program} {l : Launch} {e : Env} {R : Room} {s : State} {m : MethodId} {args : Array Value} {below : List Frame} {meth : Method} {c : Code} {Q : State → Prop} {cc : ByteArray} {pc : Nat}
variable {OB : Nat → Nat} {D : va_G} {DA : Nat → ClassId} {cl : List vw_C} {TY : List zTy} {PHI : List (List Nat)} {sz : Nat} {raw : Option Nat} {pu : Bool} {T0 : zTp} {H0 : Heap} {env0 : List Value} {nL : Nat} {st st' : zS} {good : Nat → zS → Prop}
variable {Ts : List Cond} {own : String} {FT : Nat → Nat → FieldType} {FL : List (Nat × Nat × Nat)} {CL : List (Nat × Nat)} {tys : List (ClassId × FieldType)}
variable {T : zTp} {H : Heap} {locs : List Loc} {env : List Value} {ls : Array Slot} {stk : List Value} {cells slots : Nat} {rest : List Value}
theorem z_v_mono {T T' : zTp} (h : ∀ b t, T b = some t → T' b = some t) {c : zV} {v : Value} (hv : z_v OB T c v) : z_v OB T' c v := by
  match c, hv with
  | .inl r, hv => exact hv
  | .inr (.inl t), ⟨a, e, ha⟩ => exact ⟨a, e, h a t ha⟩
  | .inr (.inr 0), hv => exact hv
  | .inr (.inr (k + 1)), hv => exact hv
theorem z_cell_mono {T T' : zTp} (h : ∀ b t, T b = some t → T' b = some t) {a : Nat} {ty : zTy} (hc : z_cell OB D DA cl T H a ty) : z_cell OB D DA cl T' H a ty := by
  cases ty with
  | inl o =>
    obtain ⟨r, h1, h2, V, h3, h4⟩ := hc
    exact ⟨r, h1, h2, V, h3, fun k c hk => z_v_mono h (h4 k c hk)⟩
  | inr q =>
    obtain ⟨n, f, h1, h2, h3, h4, h5⟩ := hc
    exact ⟨n, f, h1, h2, h3, h4, fun g hg j h6 h7 h8 => z_v_mono h (h5 g hg j h6 h7 h8)⟩
theorem z_T1_sub {T : zTp} {a tau : Nat} (ha : T a = none) : ∀ b t, T b = some t → z_T1 T a tau b = some t := by
  intro b t hb
  unfold z_T1
  rw [if_neg (fun h => by subst h; rw [ha] at hb; cases hb)]
  exact hb
theorem z_T1_at {T : zTp} {a tau : Nat} : z_T1 T a tau a = some tau := by unfold z_T1; rw [if_pos rfl]
theorem z_T1_ne {T : zTp} {a tau b : Nat} (h : b ≠ a) : z_T1 T a tau b = T b := by unfold z_T1; rw [if_neg h]
theorem z_cell_lt {a : Nat} {ty : zTy} (h : z_cell OB D DA cl T H a ty) : a < H.size := by
  cases ty with
  | inl o =>
    obtain ⟨r, h1, h2, V, ⟨cell, h3, -⟩, h4⟩ := h
    exact (Array.getElem?_eq_some_iff.mp h3).1
  | inr q =>
    obtain ⟨n, f, h1, -⟩ := h
    exact (Array.getElem?_eq_some_iff.mp h1).1
theorem z_mem_lt {ph : Nat} (h : z_mem OB D DA cl TY PHI sz raw pu T0 H0 T H locs ph) {a t : Nat} (ha : T a = some t) : a < H.size := by
  obtain ⟨ty, h1, h2⟩ := h.1 a t ha
  exact z_cell_lt h2
/-- a cell gets a type -/
theorem z_mem_grow (hpu : pu = false) {ph tau : Nat} {H1 : Heap} {a : Nat} {ty : zTy} (h : z_mem OB D DA cl TY PHI sz raw pu T0 H0 T H locs ph) (ha : T a = none) (hty : TY[tau]? = some ty) (hc : z_cell OB D DA cl (z_T1 T a tau) H1 a ty) (hz : H.size ≤ H1.size) (oq : ∀ b : Nat, b < H.size → b ≠ a → H1[b]? = H[b]?) (hsz : sz ≤ a) (hr : H0.size ≤ a ∨ raw = some a) (h0 : ∀ b : Nat, b < H0.size → H1[b]? = H[b]?) :
    z_mem OB D DA cl TY PHI sz raw pu T0 H0 (z_T1 T a tau) H1 locs ph := by
  obtain ⟨h1, h2, h3, h4, h5⟩ := h
  refine ⟨fun b u hb => ?_, ⟨fun b u hb => ?_, (fun h => by rw [hpu] at h; cases h), z_fin_tr h2.2.2 fun b u ci fl hb hty2 => ⟨u, fl, z_T1_sub ha _ _ hb, hty2, fun r k2 w x1 x2 x3 x4 => z_sl_kept0 x4 (oq b (by obtain ⟨ty2, y1, y2⟩ := h1 b u hb; exact z_cell_lt y2) (fun e => by subst e; rw [hb] at ha; cases ha))⟩⟩, fun b u hb => z_T1_sub ha _ _ (h3 b u hb), fun q hq1 hq2 hq3 => ?_, Nat.le_trans h5.1 hz, fun q hq1 hq2 => ?_, h5.2.2⟩
  · by_cases e : b = a
    · subst e
      rw [z_T1_at] at hb
      cases hb
      exact ⟨ty, hty, hc⟩
    · rw [z_T1_ne e] at hb
      obtain ⟨ty2, g1, g2⟩ := h1 b u hb
      exact ⟨ty2, g1, z_cell_mono (z_T1_sub ha) (z_cell_kept g2 (oq b (z_cell_lt g2) e))⟩
  · by_cases e : b = a
    · rw [e]; exact hsz
    · rw [z_T1_ne e] at hb; exact h2.1 b u hb
  · obtain ⟨g1, g2⟩ := h4 q hq1 hq2 hq3
    have hqa : q ≠ a := by
      intro e
      subst e
      rcases hr with h | h
      · omega
      · exact hq3 h
    exact ⟨by rw [z_T1_ne hqa]; exact g1, by rw [h0 q hq1]; exact g2⟩
  · rw [h0 q hq1]; exact h5.2.1 q hq1 hq2
theorem z_fv_mono {T T' : zTp} (h : ∀ b t, T b = some t → T' b = some t) {V : List (Nat × zV)} (hv : z_fv OB T env V) : z_fv OB T' env V := fun q hq => by
  obtain ⟨v, e1, e2⟩ := hv q hq
  exact ⟨v, e1, z_v_mono h e2⟩
theorem z_fx_grow {n0 tau : Nat} {H1 : Heap} {a : Nat} (oq : ∀ b : Nat, b < H.size → H1[b]? = H[b]?) : ∀ {X : List (Nat × Nat)}, (∀ p ∈ X, env[p.1]? ≠ some (.ref a)) → z_fx D cl T sz n0 raw H env X → z_fx D cl (z_T1 T a tau) sz n0 raw H1 env X
  | [], _, h => h
  | x :: X, ha, ⟨⟨b, h1, h2, h3, ⟨r, V, h4, h4b⟩, h5⟩, hr⟩ => by
    have hb : b ≠ a := fun e => by subst e; exact ha x List.mem_cons_self h1
    have hlt : b < H.size := by
      obtain ⟨cell, x1, -⟩ := h4b
      exact (Array.getElem?_eq_some_iff.mp x1).1
    exact ⟨⟨b, h1, by rw [z_T1_ne hb]; exact h2, h3, ⟨r, V, h4, h4b.kept (oq b hlt)⟩, h5⟩, z_fx_grow oq (fun p hp => ha p (List.mem_cons_of_mem _ hp)) hr⟩
theorem z_fx_push {n0 : Nat} {H1 : Heap} (oq : ∀ b : Nat, b < H.size → H1[b]? = H[b]?) : ∀ {X : List (Nat × Nat)}, z_fx D cl T sz n0 raw H env X → z_fx D cl T sz n0 raw H1 env X
  | [], h => h
  | x :: X, ⟨⟨b, h1, h2, h3, ⟨r, V, h4, h4b⟩, h5⟩, hr⟩ => by
    have hlt : b < H.size := by
      obtain ⟨cell, x1, -⟩ := h4b
      exact (Array.getElem?_eq_some_iff.mp x1).1
    exact ⟨⟨b, h1, h2, h3, ⟨r, V, h4, h4b.kept (oq b hlt)⟩, h5⟩, z_fx_push oq hr⟩
theorem z_ff_push {H1 : Heap} (oq : ∀ b : Nat, b < H.size → H1[b]? = H[b]?) {F : List (Nat × Nat × Nat × Nat)} (h : z_ff D cl H env F) : z_ff D cl H1 env F := fun q hq => by
  obtain ⟨a, w, r, e1, e2, e3, e4, cell, e5, e6⟩ := h q hq
  exact ⟨a, w, r, e1, e2, e3, e4, cell, by rw [oq a (Array.getElem?_eq_some_iff.mp e5).1]; exact e5, e6⟩
theorem z_fe_push {H1 : Heap} (oq : ∀ b : Nat, b < H.size → H1[b]? = H[b]?) {E : List (Nat × Nat × Nat)} (h : z_fe H env E) : z_fe H1 env E := fun q hq => by
  obtain ⟨a, x, w, e1, e2, e3, e4, cell, e5, e6⟩ := h q hq
  exact ⟨a, x, w, e1, e2, e3, e4, cell, by rw [oq a (Array.getElem?_eq_some_iff.mp e5).1]; exact e5, e6⟩
theorem z_r_nwa (hpu : pu = false) (hg : z_Good p l e R s m args below meth c Q OB D DA cl TY PHI sz raw pu T0 H0 env0 nL good) (hx : p.tables.exec = Jvm.exec) (hb : c.code = cc) (hD : z_Dy s m args Ts own D cl DA tys) (hAr : ∀ k, k < 3 → Cond.arrayClass (z_ek k) ∈ Ts) (hsz : sz ≤ H0.size) {aty : ArrayType} {ek tau : Nat} (hat : z_at aty = some ek) (hd : decode cc pc = .ok (.newarray aty, 2)) (h : z_nwa TY R.cells R.slots tau ek st = some st') (k : good (pc + 2) st') : good pc st := by
  refine (hg _ _).mpr fun T H locs env ls stk hs => ?_
  have hek : ek < 3 ∧ newarray.typeOf aty = z_ek ek := by
    cases aty <;> simp only [z_at, Option.some.injEq, reduceCtorEq] at hat <;> subst hat <;> exact ⟨by omega, rfl⟩
  unfold z_nwa at h
  split at h
  · rename_i x S hS
    split at h
    · rename_i r hr
      split at h
      · rename_i q hq
        obtain ⟨hc, rfl⟩ := z_cond h
        simp only [Bool.and_eq_true] at hc
        obtain ⟨⟨⟨⟨⟨⟨⟨⟨c1, c2⟩, c3⟩, c4⟩, c5⟩, c6⟩, c7⟩, c8⟩, c9⟩ := hc
        obtain ⟨ek2, ⟨lo, hi⟩, sg⟩ := q
        have he : ek2 = ek := z_beq c4
        subst he
        obtain ⟨vx, k2, rfl, e2, hk2⟩ := z_stk_cons hS hs.2.2.2.1
        obtain ⟨w, e3, x1, rfl, hx1⟩ := z_get_ok hs.2.2.2.2.1 hr
        have q1 : vx = .int x1 := Option.some.inj (e2.symm.trans e3)
        subst q1
        have l1 := z_ile_ok c1
        have l2 := z_ile_ok c2
        obtain ⟨u1, u2⟩ := hx1
        have hN : x1.toNatClampNeg = r.1.toNat := by rw [z_clamp]; omega
        have l3 : r.1.toNat ≤ 1000000 := Nat.le_of_ble_eq_true c3
        have l5 : lo ≤ r.1.toNat := Nat.le_of_ble_eq_true c5
        have l6 : r.1.toNat ≤ hi := Nat.le_of_ble_eq_true c6
        have hcb : componentBytes (z_ek ek2) ≤ 8 := by
          obtain ⟨h1, -⟩ := hek
          match ek2, h1 with
          | 0, _ => decide
          | 1, _ => decide
          | 2, _ => decide
        refine va_newaK hx hb (by rw [hek.2]; exact hD.1 _ (hAr _ hek.1)) rfl hd rfl (fun hneg => ?_) hN ?_ (Nat.le_of_ble_eq_true c8) (Nat.le_of_ble_eq_true c9) rfl fun H1 cA y1 y2 y3 y4 y5 => ?_
        · have := Int32.lt_iff_toInt_lt.mp hneg
          have z0 : (0 : Int32).toInt = 0 := rfl
          omega
        · rw [hek.2]
          have := Nat.mul_le_mul l3 hcb
          omega
        have hcA : cA = DA ek2 := by
          have h1 := (hD.2.2.1.2 ek2 _ (hD.2.2.2 ek2 hek.1)).2
          rw [hek.2] at y5
          have h2 : va_RA s (DA ek2) (z_ek ek2) := h1
          have h3 : s.vm.findClass ("[" ++ (z_ek ek2).toString) = some (DA ek2) := by
            obtain ⟨h0, -⟩ := hek
            match ek2, h0, h2 with
            | 0, _, h2 => exact h2
            | 1, _, h2 => exact h2
            | 2, _, h2 => exact h2
          rw [y5] at h3
          exact Option.some.inj h3
        subst hcA
        have hmem := hs.2.2.2.2.2.2.2.2.2
        have hTn : T H.size = none := by
          cases hT : T H.size with
          | none => rfl
          | some t => exact absurd (z_mem_lt hmem hT) (Nat.lt_irrefl _)
        have hsz1 : H0.size ≤ H.size := hmem.2.2.2.2.1
        have hcell : z_cell OB D DA cl (z_T1 T H.size tau) H1 H.size (.inr (ek2, (lo, hi), sg)) := by
          refine ⟨_, _, y1, l5, l6, by omega, fun g hg2 j _ _ _ => z_le_ok (List.all_eq_true.mp c7 g hg2) ?_⟩
          rw [hek.2]
          obtain ⟨h0, -⟩ := hek
          match ek2, h0 with
          | 0, _ => exact ⟨0, rfl, Int.le_refl _, Int.le_refl _⟩
          | 1, _ => exact ⟨0, rfl, Int.le_refl _, Int.le_refl _⟩
          | 2, _ => exact ⟨0, rfl⟩
        have hm := z_mem_grow hpu (tau := tau) (H1 := H1) hmem hTn hq hcell (by omega) (fun b hb1 _ => y3 b hb1) (by omega) (Or.inl hsz1) (fun b hb1 => y3 b (by omega))
        have hp := z_sat_psh hs hk2 (c := .inl (0, 0)) (v := .int 0) ⟨0, rfl, Int.le_refl _, Int.le_refl _⟩ (rs := []) (fun q hq => absurd hq List.not_mem_nil)
        have hn : (env ++ [Value.ref H.size])[z_n st]? = some (.ref H.size) := by rw [← hs.1]; simp
        refine (hg _ _).mp k (z_T1 T H.size tau) H1 locs (env ++ [.ref H.size]) ls _ ⟨by show (env ++ [Value.ref H.size]).length = z_n st + 1; rw [List.length_append, hs.1]; rfl, ?_, z_ls_app hs.2.2.1, ⟨_, _, rfl, hn, z_stk_app hk2⟩, fun f hf => ?_, z_ff_push y3 (z_ff_app hs.2.2.2.2.2.1), z_fe_push y3 (z_fe_app hs.2.2.2.2.2.2.1), z_fr_app hs.2.2.2.2.2.2.2.1, ?_, hm⟩
        · obtain ⟨w, hw⟩ := hs.2.1
          exact ⟨w ++ [.ref H.size], by rw [hw, List.append_assoc]⟩
        · rcases List.mem_cons.mp hf with rfl | hf
          · exact ⟨_, hn, H.size, rfl, z_T1_at⟩
          · exact z_fv_mono (z_T1_sub hTn) (z_fv_app hs.2.2.2.2.1) f hf
        · refine z_fx_grow y3 (fun p hp hpe => ?_) (z_fx_app hs.2.2.2.2.2.2.2.2.1)
          obtain ⟨b, b1, b2, b3, r2, V, b4, ⟨cell, b5, -⟩⟩ := z_fx_in (z_fx_app (w := [Value.ref H.size]) hs.2.2.2.2.2.2.2.2.1) p hp
          rw [b1] at hpe
          cases hpe
          exact absurd (Array.getElem?_eq_some_iff.mp b5).1 (Nat.lt_irrefl _)
      · cases h
    · cases h
  · cases h
end ZMAKES
end
section
/-! New objects; types given and made wider; longs. -/
def z_mp (PHI : List (List Nat)) (ph : Nat) (c : zV) : zV := match c with
  | .inr (.inl t) => .inr (.inl (z_phi PHI ph t))
  | c => c
/-- a type is within another one, once its references are taken on -/
def z_tle (PHI : List (List Nat)) (ph : Nat) (a b : zTy) : Bool := match a, b with
  | .inl o, .inl q => Nat.beq o.1 q.1 && Nat.beq o.2.length q.2.length && (List.range q.2.length).all (fun k => match o.2[k]?, q.2[k]? with
    | some x, some y => z_le (z_mp PHI ph x) y
    | _, _ => false)
  | .inr o, .inr q => Nat.beq o.1 q.1 && Nat.ble q.2.1.1 o.2.1.1 && Nat.ble o.2.1.2 q.2.1.2 && q.2.2.all (fun g => o.2.2.any (fun f => Nat.ble f.1.1 g.1.1 && Nat.ble g.1.2 f.1.2 && z_le (z_mp PHI ph f.2) g.2))
  | _, _ => false
def z_phok (TY : List zTy) (PHI : List (List Nat)) (ph : Nat) : Bool := (List.range TY.length).all (fun t => match TY[t]?, TY[z_phi PHI ph t]? with
  | some a, some b => z_tle PHI ph a b
  | _, _ => false)
def z_rty (PHI : List (List Nat)) (st : zS) (ph : Nat) : Option zS := cond (Nat.beq (z_ph st) 0) (some (z_L st, z_S st, z_n st, (z_V st).map (fun q => (q.1, z_mp PHI ph q.2)), z_F st, z_E st, z_R st, z_X st, z_C st, ph)) none
def z_lc0 (st : zS) : Option zS := some (z_psh st (z_S st) (.inr (.inr 0)) [])
def z_lsh (st : zS) : Option zS := match z_S st with
  | y :: x :: S => (match z_get (z_V st) x, z_get (z_V st) y with
    | some (.inr (.inr 0)), some (.inl _) => some (z_psh st S (.inr (.inr 0)) [])
    | _, _ => none)
  | _ => none
def z_l2 (c : zV) (st : zS) : Option zS := match z_S st with
  | y :: x :: S => (match z_get (z_V st) x, z_get (z_V st) y with
    | some (.inr (.inr 0)), some (.inr (.inr 0)) => some (z_psh st S c [])
    | _, _ => none)
  | _ => none
section ZMAKES2
variable {p : Program} {l : Launch} {e : Env} {R : Room} {s : State} {m : MethodId} {args : Array Value} {below : List Frame} {meth : Method} {c : Code} {Q : State → Prop} {cc : ByteArray} {pc : Nat}
variable {OB : Nat → Nat} {D : va_G} {DA : Nat → ClassId} {cl : List vw_C} {TY : List zTy} {PHI : List (List Nat)} {sz : Nat} {raw : Option Nat} {pu : Bool} {T0 : zTp} {H0 : Heap} {env0 : List Value} {nL : Nat} {st st' : zS} {good : Nat → zS → Prop}
variable {Ts : List Cond} {own : String} {FT : Nat → Nat → FieldType} {FL : List (Nat × Nat × Nat)} {CL : List (Nat × Nat)} {tys : List (ClassId × FieldType)}
variable {T : zTp} {H : Heap} {locs : List Loc} {env : List Value} {ls : Array Slot} {stk : List Value} {cells slots : Nat} {rest : List Value}
theorem z_r_new (hpu : pu = false) (hg : z_Good p l e R s m args below meth c Q OB D DA cl TY PHI sz raw pu T0 H0 env0 nL good) (hx : p.tables.exec = Jvm.exec) (hb : c.code = cc) (hSt : z_St Ts cl FT own FL) (hD : z_Dy s m args Ts own D cl DA tys) (hCL : ∀ q ∈ CL, ∃ r, cl[q.2]? = some r ∧ Cond.classLink own q.1 r.1 ∈ Ts ∧ Cond.instantiable r.1 r.2.2 ∈ Ts ∧ Cond.initialized r.1 ∈ Ts) (hsz : sz ≤ H0.size) {i : Nat} (hd : decode cc pc = .ok (.new i, 3)) (h : z_new CL cl FT R.cells R.slots st i = some st') (k : good (pc + 3) st') : good pc st := by
  refine (hg _ _).mpr fun T H locs env ls stk hs => ?_
  unfold z_new at h
  split at h
  · rename_i q hq
    have hm := List.mem_of_find?_eq_some hq
    have hi0 := List.find?_some hq
    have hi : q.1 = i := z_beq hi0
    split at h
    · rename_i r hr
      obtain ⟨hc, rfl⟩ := z_cond h
      rw [Bool.and_eq_true] at hc
      obtain ⟨r2, w1, w2, w3, w4⟩ := hCL q hm
      rw [hr] at w1
      cases w1
      obtain ⟨hts, hown, hK, -⟩ := id hD
      have hKn := hK.1 _ _ hr
      have hmem := hs.2.2.2.2.2.2.2.2.2
      have hTn : T H.size = none := by
        cases hT : T H.size with
        | none => rfl
        | some t => exact absurd (z_mem_lt hmem hT) (Nat.lt_irrefl _)
      have hsz1 : H0.size ≤ H.size := hmem.2.2.2.2.1
      refine W.newcK hx hb hown (hts _ w2) (hts _ w3) (hts _ w4) rfl (by rw [← hi] at hd; exact hd) (Nat.le_of_ble_eq_true hc.1) (Nat.le_of_ble_eq_true hc.2) hKn.2.1 rfl fun H1 kC y1 y2 y3 y4 => ?_
      have hob : t_OB H.size (D.1 q.2) r.2.2 (D.2 q.2) H1 (fun k => defaultValue (FT q.2 k)) := u_born (FT q.2) hts (hSt.1 _ _ hr).1 hKn y1 y2 (hSt.1 _ _ hr).2.1
      have n0 : (env ++ [Value.ref H.size, Value.int 0])[z_n st]? = some (.ref H.size) := by rw [← hs.1]; simp
      have n1 : (env ++ [Value.ref H.size, Value.int 0])[z_n st + 1]? = some (.int 0) := by rw [← hs.1]; simp
      refine (hg _ _).mp k T H1 locs (env ++ [.ref H.size, .int 0]) ls _ ⟨by show (env ++ [Value.ref H.size, Value.int 0]).length = z_n st + 2; rw [List.length_append, hs.1]; rfl, ?_, z_ls_app hs.2.2.1, ⟨_, _, rfl, n0, z_stk_app hs.2.2.2.1⟩, fun f hf => ?_, fun f hf => ?_, z_fe_push y4 (z_fe_app hs.2.2.2.2.2.2.1), z_fr_app hs.2.2.2.2.2.2.2.1, ⟨⟨H.size, n0, hTn, ⟨by omega, Or.inl hsz1⟩, ⟨r, _, hr, hob⟩, fun p hp hpe => ?_⟩, z_fx_push y4 (z_fx_app hs.2.2.2.2.2.2.2.2.1)⟩, ?_⟩
      · obtain ⟨w, hw⟩ := hs.2.1
        exact ⟨w ++ [.ref H.size, .int 0], by rw [hw, List.append_assoc]⟩
      · rcases List.mem_cons.mp hf with rfl | hf
        · exact ⟨_, n1, 0, rfl, Int.le_refl _, Int.le_refl _⟩
        · exact z_fv_app hs.2.2.2.2.1 f hf
      · rcases List.mem_append.mp hf with hf | hf
        · obtain ⟨k1, hk1, rfl⟩ := List.mem_map.mp hf
          obtain ⟨hk2, hk3⟩ := List.mem_filter.mp hk1
          have hlt := List.mem_range.mp hk2
          refine ⟨H.size, .int 0, r, n0, n1, hr, hlt, ?_⟩
          obtain ⟨cell, x1, x2, x3, x4⟩ := hob
          refine ⟨cell, x1, x3, ?_⟩
          show cell.slots[D.2 q.2 k1]? = some (.int 0)
          rw [x4 _ hlt]
          show some (defaultValue (FT q.2 k1)) = some (.int 0)
          cases hft : FT q.2 k1 <;> rw [hft] at hk3 <;> simp only [z_zf, Bool.false_eq_true] at hk3 <;> rfl
        · exact z_ff_push y4 (z_ff_app hs.2.2.2.2.2.1) f hf
      · obtain ⟨b, b1, b2, b3, r2, V, b4, ⟨cell, b5, -⟩⟩ := z_fx_in (z_fx_app (w := [Value.ref H.size, Value.int 0]) hs.2.2.2.2.2.2.2.2.1) p hp
        rw [b1] at hpe
        cases hpe
        exact absurd (Array.getElem?_eq_some_iff.mp b5).1 (Nat.lt_irrefl _)
      · obtain ⟨h1, h2, h3, h4, h5⟩ := hmem
        refine ⟨fun b u hb => ?_, ⟨h2.1, (fun h => by rw [hpu] at h; cases h), z_fin_tr h2.2.2 fun b u ci fl hb hty2 => ⟨u, fl, hb, hty2, fun r k2 w x1 x2 x3 x4 => z_sl_kept0 x4 (y4 b (by obtain ⟨ty2, u1, u2⟩ := h1 b u hb; exact z_cell_lt u2))⟩⟩, h3, fun q hq1 hq2 hq3 => ?_, Nat.le_trans h5.1 (by omega), fun q hq1 hq2 => ?_, h5.2.2⟩
        · obtain ⟨ty2, g1, g2⟩ := h1 b u hb
          exact ⟨ty2, g1, z_cell_kept g2 (y4 b (z_cell_lt g2))⟩
        · obtain ⟨g1, g2⟩ := h4 q hq1 hq2 hq3
          exact ⟨g1, by rw [y4 q (by omega)]; exact g2⟩
        · rw [y4 q (by omega)]; exact h5.2.1 q hq1 hq2
    · cases h
  · cases h
theorem z_fx_rem {n0 : Nat} {d : Nat} {a tau : Nat} (hd : env[d]? = some (.ref a)) : ∀ {X : List (Nat × Nat)}, z_fx D cl T sz n0 raw H env X → (∀ p ∈ X, p.1 ≠ d → env[p.1]? ≠ some (.ref a)) → z_fx D cl (z_T1 T a tau) sz n0 raw H env (X.filter (fun p => !(Nat.beq p.1 d)))
  | [], h, _ => h
  | x :: X, ⟨⟨b, h1, h2, h3, h4, h5⟩, hr⟩, hn => by
    have ih := z_fx_rem (tau := tau) hd hr (fun p hp => hn p (List.mem_cons_of_mem _ hp))
    unfold List.filter
    cases hx : Nat.beq x.1 d with
    | true => exact ih
    | false =>
      have hne : x.1 ≠ d := fun h => by rw [h] at hx; simp at hx
      have hba : b ≠ a := fun h => by subst h; exact hn x List.mem_cons_self hne h1
      exact ⟨⟨b, h1, by rw [z_T1_ne hba]; exact h2, h3, h4, fun p hp => h5 p (List.mem_filter.mp hp).1⟩, ih⟩
theorem z_pub_ok (hpu : pu = false) (hg : z_Good p l e R s m args below meth c Q OB D DA cl TY PHI sz raw pu T0 H0 env0 nL good) {d tau : Nat} (hTY : ∀ ci fl, TY[tau]? = some (.inl (ci, fl)) → ∀ r, cl[ci]? = some r → fl.length = r.2.2) (h : z_pub TY st d tau = some st') (k : good pc st') : good pc st := by
  refine (hg _ _).mpr fun T H locs env ls stk hs => ?_
  unfold z_pub at h
  split at h
  · rename_i q o hq ho
    obtain ⟨hc, rfl⟩ := z_cond h
    rw [Bool.and_eq_true] at hc
    have hm := List.mem_of_find?_eq_some hq
    have hi0 := List.find?_some hq
    have hi : q.1 = d := z_beq hi0
    obtain ⟨ci, fl⟩ := o
    have hci : ci = q.2 := z_beq hc.1
    subst hci
    obtain ⟨a, g1, g2, g3, r, V, g4, g5⟩ := z_fx_in hs.2.2.2.2.2.2.2.2.1 q hm
    rw [hi] at g1
    have hfl := hTY _ _ ho r g4
    have hmem := hs.2.2.2.2.2.2.2.2.2
    have hcell : z_cell OB D DA cl (z_T1 T a tau) H a (.inl (q.2, fl)) := by
      refine ⟨r, g4, hfl, V, g5, fun j c1 hj => ?_⟩
      have hlt : j < fl.length := (List.getElem?_eq_some_iff.mp hj).1
      have h1 := List.all_eq_true.mp hc.2 j (List.mem_range.mpr hlt)
      split at h1
      · rename_i c2 w hc2 hw
        have hj2 : fl[j]? = some c2 := hc2
        rw [hj] at hj2
        cases hj2
        obtain ⟨a2, v2, y1, y2, cell, y3, y4, y5⟩ := z_ffind_ok hw hs
        rw [g1] at y1
        cases y1
        split at h1
        · rename_i cw hcw
          obtain ⟨v3, y6, y7⟩ := z_get_ok hs.2.2.2.2.1 hcw
          rw [y2] at y6
          cases y6
          obtain ⟨cell2, x1, x2, x3, x4⟩ := g5
          rw [y3] at x1
          cases x1
          have := x4 j (by omega)
          rw [y5] at this
          cases this
          exact z_v_mono (z_T1_sub g2) (z_le_ok h1 y7)
        · cases h1
      · cases h1
    have hms := z_mem_grow hpu (tau := tau) (H1 := H) hmem g2 ho hcell (Nat.le_refl _) (fun b _ _ => rfl) g3.1 g3.2 (fun b _ => rfl)
    refine (hg _ _).mp k (z_T1 T a tau) H locs env ls stk ⟨hs.1, hs.2.1, hs.2.2.1, hs.2.2.2.1, fun f hf => ?_, hs.2.2.2.2.2.1, hs.2.2.2.2.2.2.1, hs.2.2.2.2.2.2.2.1, z_fx_rem g1 hs.2.2.2.2.2.2.2.2.1 (fun p hp hne => ?_), hms⟩
    · rcases List.mem_cons.mp hf with rfl | hf
      · exact ⟨_, g1, a, rfl, z_T1_at⟩
      · exact z_fv_mono (z_T1_sub g2) hs.2.2.2.2.1 f hf
    · exact z_fx_apart hs.2.2.2.2.2.2.2.2.1 hm hp (by rw [hi]; exact fun h => hne h.symm) (by rw [hi]; exact g1)
  · cases h
theorem z_mp_ok {ph : Nat} {T' : zTp} (h : ∀ b, T' b = (T b).map (z_phi PHI ph)) {c : zV} {v : Value} (hv : z_v OB T c v) : z_v OB T' (z_mp PHI ph c) v := by
  match c, hv with
  | .inl r, hv => exact hv
  | .inr (.inl t), ⟨a, e, ha⟩ => exact ⟨a, e, by rw [h, ha]; rfl⟩
  | .inr (.inr 0), hv => exact hv
  | .inr (.inr (k + 1)), hv => exact hv
theorem z_tle_ok {ph : Nat} {T' : zTp} (h : ∀ b, T' b = (T b).map (z_phi PHI ph)) {a b : zTy} (hl : z_tle PHI ph a b = true) {q : Nat} (hc : z_cell OB D DA cl T H q a) : z_cell OB D DA cl T' H q b := by
  cases a with
  | inl o =>
    cases b with
    | inr b => cases hl
    | inl b =>
      unfold z_tle at hl
      simp only [Bool.and_eq_true] at hl
      obtain ⟨⟨h1, h2⟩, h3⟩ := hl
      obtain ⟨r, g1, g2, V, g3, g4⟩ := hc
      have e1 := z_beq h1
      have e2 := z_beq h2
      rw [e1] at g1 g3
      refine ⟨r, g1, by rw [← e2]; exact g2, V, g3, fun k c hk => ?_⟩
      have hlt : k < b.2.length := (List.getElem?_eq_some_iff.mp hk).1
      have h4 := List.all_eq_true.mp h3 k (List.mem_range.mpr hlt)
      split at h4
      · rename_i x y hx hy
        rw [hk] at hy
        cases hy
        exact z_le_ok h4 (z_mp_ok h (g4 k x hx))
      · cases h4
  | inr o =>
    cases b with
    | inl b => cases hl
    | inr b =>
      unfold z_tle at hl
      simp only [Bool.and_eq_true] at hl
      obtain ⟨⟨⟨h1, h2⟩, h3⟩, h4⟩ := hl
      obtain ⟨n, f, g1, g2, g3, g4, g5⟩ := hc
      have e1 := z_beq h1
      rw [e1] at g1
      refine ⟨n, f, g1, Nat.le_trans (Nat.le_of_ble_eq_true h2) g2, Nat.le_trans g3 (Nat.le_of_ble_eq_true h3), g4, fun g hg j hj1 hj2 hj3 => ?_⟩
      obtain ⟨x, hx1, hx2⟩ := List.any_eq_true.mp (List.all_eq_true.mp h4 g hg)
      simp only [Bool.and_eq_true] at hx2
      exact z_le_ok hx2.2 (z_mp_ok h (g5 x hx1 j hj1 (Nat.le_trans (Nat.le_of_ble_eq_true hx2.1.1) hj2) (Nat.le_trans hj3 (Nat.le_of_ble_eq_true hx2.1.2))))
theorem z_ht_map {ph : Nat} (hp : z_phok TY PHI ph = true) (h : z_ht OB D DA cl TY T H) : z_ht OB D DA cl TY (fun b => (T b).map (z_phi PHI ph)) H := by
  intro a t ht
  cases hT : T a with
  | none => simp [hT] at ht
  | some u =>
    have hu : t = z_phi PHI ph u := by simp [hT] at ht; exact ht.symm
    subst hu
    obtain ⟨ty, g1, g2⟩ := h a u hT
    have hlt : u < TY.length := (List.getElem?_eq_some_iff.mp g1).1
    have h1 := List.all_eq_true.mp hp u (List.mem_range.mpr hlt)
    split at h1
    · rename_i x y hx hy
      rw [g1] at hx
      cases hx
      exact ⟨y, hy, z_tle_ok (fun b => rfl) h1 g2⟩
    · cases h1
theorem z_mem_map (hpu : pu = false) {ph : Nat} (hp : z_phok TY PHI ph = true) (h : z_mem OB D DA cl TY PHI sz raw pu T0 H0 T H locs 0) : z_mem OB D DA cl TY PHI sz raw pu T0 H0 (fun b => (T b).map (z_phi PHI ph)) H locs ph := by
  obtain ⟨h1, h2, h3, h4, h5⟩ := h
  refine ⟨z_ht_map hp h1, ⟨fun a t ht => ?_, (fun h => by rw [hpu] at h; cases h), z_fin_tr h2.2.2 fun b u ci fl hb hty2 => ?_⟩, fun a t ht => ?_, fun q hq1 hq2 hq3 => ?_, h5⟩
  · cases hT : T a with
    | none => simp [hT] at ht
    | some u => exact h2.1 a u hT
  · have hlt : u < TY.length := (List.getElem?_eq_some_iff.mp hty2).1
    have g1 := List.all_eq_true.mp hp u (List.mem_range.mpr hlt)
    split at g1
    · rename_i x y hx hy
      rw [hty2] at hx
      cases hx
      match y, g1, hy with
      | .inl q, g1, hy =>
        simp only [z_tle, Bool.and_eq_true] at g1
        obtain ⟨qc, qf⟩ := q
        have hq : ci = qc := z_beq g1.1.1
        subst hq
        exact ⟨_, qf, by simp [hb], hy, fun r k2 w x1 x2 x3 x4 => x4⟩
      | .inr q, g1, hy => simp [z_tle] at g1
    · cases g1
  · have := h3 a t ht
    simp only [this]
    rfl
  · obtain ⟨g1, g2⟩ := h4 q hq1 hq2 hq3
    exact ⟨by simp [g1], g2⟩
theorem z_fx_map {n0 ph : Nat} : ∀ {X : List (Nat × Nat)}, z_fx D cl T sz n0 raw H env X → z_fx D cl (fun b => (T b).map (z_phi PHI ph)) sz n0 raw H env X
  | [], h => h
  | x :: X, ⟨⟨b, h1, h2, h3⟩, hr⟩ => ⟨⟨b, h1, by simp [h2], h3⟩, z_fx_map hr⟩
theorem z_rty_ok (hpu : pu = false) (hg : z_Good p l e R s m args below meth c Q OB D DA cl TY PHI sz raw pu T0 H0 env0 nL good) {ph : Nat} (hp : z_phok TY PHI ph = true) (h : z_rty PHI st ph = some st') (k : good pc st') : good pc st := by
  refine (hg _ _).mpr fun T H locs env ls stk hs => ?_
  obtain ⟨hc, rfl⟩ := z_cond h
  have h0 : z_ph st = 0 := z_beq hc
  have hmem := hs.2.2.2.2.2.2.2.2.2
  rw [h0] at hmem
  refine (hg _ _).mp k (fun b => (T b).map (z_phi PHI ph)) H locs env ls stk ⟨hs.1, hs.2.1, hs.2.2.1, hs.2.2.2.1, fun f hf => ?_, hs.2.2.2.2.2.1, hs.2.2.2.2.2.2.1, hs.2.2.2.2.2.2.2.1, z_fx_map hs.2.2.2.2.2.2.2.2.1, z_mem_map hpu hp hmem⟩
  obtain ⟨q, hq, rfl⟩ := List.mem_map.mp hf
  obtain ⟨v, e1, e2⟩ := hs.2.2.2.2.1 q hq
  exact ⟨v, e1, z_mp_ok (fun b => rfl) e2⟩
theorem z_r_lconst (hg : z_Good p l e R s m args below meth c Q OB D DA cl TY PHI sz raw pu T0 H0 env0 nL good) (hx : p.tables.exec = Jvm.exec) (hb : c.code = cc) {n : Fin 2} (hd : decode cc pc = .ok (.lconst n, 1)) (h : z_lc0 st = some st') (k : good (pc + 1) st') : good pc st := by
  refine (hg _ _).mpr fun T H locs env ls stk hs => ?_
  cases h
  exact lv_lconst hx hb hd rfl ((hg _ _).mp k T H locs _ ls _ (z_sat_psh hs hs.2.2.2.1 (c := .inr (.inr 0)) ⟨_, rfl⟩ (fun q hq => absurd hq List.not_mem_nil)))
theorem z_r_lshl (hg : z_Good p l e R s m args below meth c Q OB D DA cl TY PHI sz raw pu T0 H0 env0 nL good) (hx : p.tables.exec = Jvm.exec) (hb : c.code = cc) (hd : decode cc pc = .ok (.lshl, 1)) (h : z_lsh st = some st') (k : good (pc + 1) st') : good pc st := by
  refine (hg _ _).mpr fun T H locs env ls stk hs => ?_
  unfold z_lsh at h
  split at h
  · rename_i y x S hS
    split at h
    · rename_i r hxx hyy
      cases h
      obtain ⟨vy, k1, rfl, e1, vx, k2, rfl, e2, hk2⟩ := z_stk_cons hS hs.2.2.2.1
      obtain ⟨v, e3, x1, rfl⟩ := z_get_ok hs.2.2.2.2.1 hxx
      obtain ⟨w, e4, y1, rfl, _⟩ := z_get_ok hs.2.2.2.2.1 hyy
      have q1 : vx = .long x1 := Option.some.inj (e2.symm.trans e3)
      have q2 : vy = .int y1 := Option.some.inj (e1.symm.trans e4)
      subst q1; subst q2
      exact lv_lshl hx hb hd rfl ((hg _ _).mp k T H locs _ ls _ (z_sat_psh hs hk2 (c := .inr (.inr 0)) ⟨_, rfl⟩ (fun q hq => absurd hq List.not_mem_nil)))
    · cases h
  · cases h
theorem z_r_lor (hg : z_Good p l e R s m args below meth c Q OB D DA cl TY PHI sz raw pu T0 H0 env0 nL good) (hx : p.tables.exec = Jvm.exec) (hb : c.code = cc) (hd : decode cc pc = .ok (.lor, 1)) (h : z_l2 (.inr (.inr 0)) st = some st') (k : good (pc + 1) st') : good pc st := by
  refine (hg _ _).mpr fun T H locs env ls stk hs => ?_
  unfold z_l2 at h
  split at h
  · rename_i y x S hS
    split at h
    · rename_i hxx hyy
      cases h
      obtain ⟨vy, k1, rfl, e1, vx, k2, rfl, e2, hk2⟩ := z_stk_cons hS hs.2.2.2.1
      obtain ⟨v, e3, x1, rfl⟩ := z_get_ok hs.2.2.2.2.1 hxx
      obtain ⟨w, e4, y1, rfl⟩ := z_get_ok hs.2.2.2.2.1 hyy
      have q1 : vx = .long x1 := Option.some.inj (e2.symm.trans e3)
      have q2 : vy = .long y1 := Option.some.inj (e1.symm.trans e4)
      subst q1; subst q2
      exact lv_lor hx hb hd ((hg _ _).mp k T H locs _ ls _ (z_sat_psh hs hk2 (c := .inr (.inr 0)) ⟨_, rfl⟩ (fun q hq => absurd hq List.not_mem_nil)))
    · cases h
  · cases h
theorem z_r_lcmp (hg : z_Good p l e R s m args below meth c Q OB D DA cl TY PHI sz raw pu T0 H0 env0 nL good) (hx : p.tables.exec = Jvm.exec) (hb : c.code = cc) (hd : decode cc pc = .ok (.lcmp, 1)) (h : z_l2 (.inl z_full) st = some st') (k : good (pc + 1) st') : good pc st := by
  refine (hg _ _).mpr fun T H locs env ls stk hs => ?_
  unfold z_l2 at h
  split at h
  · rename_i y x S hS
    split at h
    · rename_i hxx hyy
      cases h
      obtain ⟨vy, k1, rfl, e1, vx, k2, rfl, e2, hk2⟩ := z_stk_cons hS hs.2.2.2.1
      obtain ⟨v, e3, x1, rfl⟩ := z_get_ok hs.2.2.2.2.1 hxx
      obtain ⟨w, e4, y1, rfl⟩ := z_get_ok hs.2.2.2.2.1 hyy
      have q1 : vx = .long x1 := Option.some.inj (e2.symm.trans e3)
      have q2 : vy = .long y1 := Option.some.inj (e1.symm.trans e4)
      subst q1; subst q2
      exact W.lcmp hx hb hd ((hg _ _).mp k T H locs _ ls _ (z_sat_psh hs hk2 (z_vi (z_in_full _)) (fun q hq => absurd hq List.not_mem_nil)))
    · cases h
  · cases h
end ZMAKES2
end
section
/-! Contracts: what a method asks and what it answers. -/
abbrev zLoc : Type := Nat × Nat × Nat × Option Nat
abbrev zP : Type := List (Nat × zV) × Option zV × List (zV × Option Int × Option Int) × List (zLoc × zV)
/-- parameters; the class of a raw first one; places with what they hold at first; ends; nothing written; cells and slots; frames and locals; retyping -/
abbrev zSig : Type := List zV × Option Nat × List (zLoc × zV) × List zP × Bool × (Nat × Nat) × (Nat × Nat) × Nat
abbrev g_prm (g : zSig) := g.1
abbrev g_raw (g : zSig) := g.2.1
abbrev g_loc (g : zSig) := g.2.2.1
abbrev g_pst (g : zSig) := g.2.2.2.1
abbrev g_pur (g : zSig) := g.2.2.2.2.1
abbrev g_mk (g : zSig) := g.2.2.2.2.2.1
abbrev g_rm (g : zSig) := g.2.2.2.2.2.2.1
abbrev g_ph (g : zSig) := g.2.2.2.2.2.2.2
/-- what stands in a place that is named from an argument on -/
def z_lv (D : va_G) (cl : List vw_C) (H : Heap) (o : Option Value) (q : zLoc) (w : Value) : Prop := ∃ a r, o = some (.ref a) ∧ cl[q.2.1]? = some r ∧ q.2.2.1 < r.2.2 ∧ (match q.2.2.2 with
  | none => z_sl H a (D.2 q.2.1 q.2.2.1) w
  | some c => ∃ b : Nat, z_sl H a (D.2 q.2.1 q.2.2.1) (.ref b) ∧ z_sl H b c w)
theorem z_sl_fun {H : Heap} {a k : Nat} {v w : Value} (h : z_sl H a k v) (h2 : z_sl H a k w) : v = w := by
  obtain ⟨c1, e1, _, e3⟩ := h
  obtain ⟨c2, f1, _, f3⟩ := h2
  rw [e1] at f1
  cases f1
  rw [e3] at f3
  exact Option.some.inj f3
theorem z_lv_fun {D : va_G} {cl : List vw_C} {H : Heap} {o : Option Value} {q : zLoc} {v w : Value} (h : z_lv D cl H o q v) (h2 : z_lv D cl H o q w) : v = w := by
  obtain ⟨a, r, e1, e2, e3, e4⟩ := h
  obtain ⟨b, r2, f1, f2, f3, f4⟩ := h2
  rw [e1] at f1
  cases f1
  rcases q with ⟨j, ci, k, _ | c⟩
  · exact z_sl_fun e4 f4
  · obtain ⟨x, x1, x2⟩ := e4
    obtain ⟨y, y1, y2⟩ := f4
    have := z_sl_fun x1 y1
    cases this
    exact z_sl_fun x2 y2
/-- a symbol for what a field holds -/
def z_gf (TY : List zTy) (st : zS) (d ci k : Nat) : Option (zS × Nat) := match z_ffind st d ci k with
  | some w => some (st, w)
  | none => (match z_get (z_V st) d with
    | some (.inr (.inl t)) => (match TY[t]? with
      | some (.inl o) => (match o.2[k]? with
        | some c => cond (Nat.beq o.1 ci) (some ((z_L st, z_S st, z_n st + 1, (z_n st, c) :: z_V st, (d, ci, k, z_n st) :: z_F st, z_E st, z_R st, z_X st, z_C st, z_ph st), z_n st)) none
        | none => none)
      | _ => none)
    | _ => none)
/-- a symbol for a constant -/
def z_gc (st : zS) (c : Nat) : zS := (z_L st, z_S st, z_n st + 1, (z_n st, .inl ((c : Int), (c : Int))) :: z_V st, z_F st, z_E st, z_R st, z_X st, z_C st, z_ph st)
/-- a symbol for what an entry holds -/
def z_ge (TY : List zTy) (st : zS) (d j c : Nat) : Option (zS × Nat) := match z_efind st d j with
  | some w => some (st, w)
  | none => (match z_get (z_V st) d with
    | some (.inr (.inl t)) => (match TY[t]? with
      | some (.inr q) => (match z_seg q.2.2 ((c : Int), (c : Int)) with
        | some v => cond (Nat.blt c q.2.1.1) (some ((z_L st, z_S st, z_n st + 1, (z_n st, v) :: z_V st, z_F st, (d, j, z_n st) :: z_E st, z_R st, z_X st, z_C st, z_ph st), z_n st)) none
        | none => none)
      | _ => none)
    | _ => none)
def z_gl (TY : List zTy) (st : zS) (d : Nat) (q : zLoc) : Option (zS × Nat) := match z_gf TY st d q.2.1 q.2.2.1 with
  | some (st1, w) => (match q.2.2.2 with
    | none => some (st1, w)
    | some c => cond (Nat.ble c 1000000) (z_ge TY (z_gc st1 c) w (z_n st1) c) none)
  | none => none
/-- the same but for what is known -/
def z_ext (st st' : zS) : Prop := z_L st' = z_L st ∧ z_S st' = z_S st ∧ z_X st' = z_X st ∧ z_C st' = z_C st ∧ z_ph st' = z_ph st ∧ z_n st ≤ z_n st'
section ZGH
variable {OB : Nat → Nat} {D : va_G} {DA : Nat → ClassId} {cl : List vw_C} {TY : List zTy} {PHI : List (List Nat)} {sz : Nat} {raw : Option Nat} {pu : Bool} {T0 : zTp} {H0 : Heap} {env0 : List Value} {nL : Nat} {st st' : zS} {T : zTp} {H : Heap} {locs : List Loc} {env : List Value} {ls : Array Slot} {stk : List Value}
theorem z_pre_app {w1 : List Value} {v : Value} (h : ∃ w, env = env0 ++ w) : ∃ w, env ++ [v] = env0 ++ w := by
  obtain ⟨w, hw⟩ := h
  exact ⟨w ++ [v], by rw [hw, List.append_assoc]⟩
theorem z_gf_ok {d ci k w : Nat} (h : z_gf TY st d ci k = some (st', w)) (hs : z_sat OB D DA cl TY PHI sz raw pu T0 H0 env0 nL st T H locs env ls stk) :
    ∃ (x : List Value) (a : Nat) (v : Value), z_sat OB D DA cl TY PHI sz raw pu T0 H0 env0 nL st' T H locs (env ++ x) ls stk ∧ z_ext st st' ∧ env[d]? = some (.ref a) ∧ (env ++ x)[w]? = some v ∧ z_sl H a (D.2 ci k) v := by
  unfold z_gf at h
  split at h
  · rename_i w2 hw
    cases h
    obtain ⟨a, v, e1, e2, e3⟩ := z_ffind_ok hw hs
    exact ⟨[], a, v, by rw [List.append_nil]; exact hs, ⟨rfl, rfl, rfl, rfl, rfl, Nat.le_refl _⟩, e1, by rw [List.append_nil]; exact e2, e3⟩
  · split at h
    · rename_i t ht
      split at h
      · rename_i o ho
        split at h
        · rename_i c0 hc0
          obtain ⟨hb1, hh⟩ := z_cond h
          cases hh
          obtain ⟨ci2, fl⟩ := o
          have ho1 : ci2 = ci := z_beq hb1
          subst ho1
          obtain ⟨a, r, V, g1, g2, g3, g4, g5, g6⟩ := z_obj hs ht ho
          have hlt : k < r.2.2 := by rw [← g4]; exact (List.getElem?_eq_some_iff.mp hc0).1
          have hsl : z_sl H a (D.2 ci2 k) (V k) := by
            obtain ⟨cell, x1, x2, x3, x4⟩ := g5
            exact ⟨cell, x1, x3, x4 _ hlt⟩
          have hn : (env ++ [V k])[z_n st]? = some (V k) := by rw [← hs.1]; simp
          refine ⟨[V k], a, V k, ⟨by show (env ++ [V k]).length = z_n st + 1; rw [List.length_append, hs.1]; rfl, z_pre_app (w1 := []) hs.2.1, z_ls_app hs.2.2.1, z_stk_app hs.2.2.2.1, fun f hf => ?_, fun f hf => ?_, z_fe_app hs.2.2.2.2.2.2.1, z_fr_app hs.2.2.2.2.2.2.2.1, z_fx_app hs.2.2.2.2.2.2.2.2.1, hs.2.2.2.2.2.2.2.2.2⟩, ⟨rfl, rfl, rfl, rfl, rfl, Nat.le_succ _⟩, g1, hn, hsl⟩
          · rcases List.mem_cons.mp hf with rfl | hf
            · exact ⟨_, hn, g6 _ _ hc0⟩
            · exact z_fv_app hs.2.2.2.2.1 f hf
          · rcases List.mem_cons.mp hf with rfl | hf
            · exact ⟨a, _, r, z_app g1, hn, g3, hlt, hsl⟩
            · exact z_ff_app hs.2.2.2.2.2.1 f hf
        · cases h
      · cases h
    · cases h
theorem z_gc_ok {c : Nat} (hc : c ≤ 1000000) (hs : z_sat OB D DA cl TY PHI sz raw pu T0 H0 env0 nL st T H locs env ls stk) : ∃ i : Int32, i.toInt = (c : Int) ∧ (env ++ [.int i])[z_n st]? = some (.int i) ∧ z_sat OB D DA cl TY PHI sz raw pu T0 H0 env0 nL (z_gc st c) T H locs (env ++ [.int i]) ls stk := by
  have hi : (Int32.ofNat c).toInt = (c : Int) := Int32.toInt_ofNat_of_lt (by omega)
  have hn : (env ++ [Value.int (Int32.ofNat c)])[z_n st]? = some (.int (Int32.ofNat c)) := by rw [← hs.1]; simp
  refine ⟨Int32.ofNat c, hi, hn, by show (env ++ [Value.int (Int32.ofNat c)]).length = z_n st + 1; rw [List.length_append, hs.1]; rfl, z_pre_app (w1 := []) hs.2.1, z_ls_app hs.2.2.1, z_stk_app hs.2.2.2.1, fun f hf => ?_, z_ff_app hs.2.2.2.2.2.1, z_fe_app hs.2.2.2.2.2.2.1, z_fr_app hs.2.2.2.2.2.2.2.1, z_fx_app hs.2.2.2.2.2.2.2.2.1, hs.2.2.2.2.2.2.2.2.2⟩
  rcases List.mem_cons.mp hf with rfl | hf
  · exact ⟨_, hn, z_vi ⟨by rw [hi]; exact Int.le_refl _, by rw [hi]; exact Int.le_refl _⟩⟩
  · exact z_fv_app hs.2.2.2.2.1 f hf
theorem z_ge_ok {d j c w : Nat} {i : Int32} (hi : i.toInt = (c : Int)) (hj : env[j]? = some (.int i)) (h : z_ge TY st d j c = some (st', w)) (hs : z_sat OB D DA cl TY PHI sz raw pu T0 H0 env0 nL st T H locs env ls stk) :
    ∃ (x : List Value) (b : Nat) (v : Value), z_sat OB D DA cl TY PHI sz raw pu T0 H0 env0 nL st' T H locs (env ++ x) ls stk ∧ z_ext st st' ∧ env[d]? = some (.ref b) ∧ (env ++ x)[w]? = some v ∧ z_sl H b c v := by
  unfold z_ge at h
  split at h
  · rename_i w2 hw
    cases h
    obtain ⟨a, v, e1, e2, e3, e4⟩ := z_efind_ok hw hs hj
    rw [hi] at e4
    exact ⟨[], a, v, by rw [List.append_nil]; exact hs, ⟨rfl, rfl, rfl, rfl, rfl, Nat.le_refl _⟩, e1, by rw [List.append_nil]; exact e2, by simpa using e4⟩
  · split at h
    · rename_i t ht
      split at h
      · rename_i q hq
        split at h
        · rename_i v0 hv0
          obtain ⟨hb1, hh⟩ := z_cond h
          cases hh
          obtain ⟨ek, ⟨lo, hi2⟩, sg⟩ := q
          have hlt := z_blt hb1
          obtain ⟨a, n, f, g1, g2, g3, g4, g5, g6, g7⟩ := z_arr hs ht hq
          have hcn : c < n := Nat.lt_of_lt_of_le hlt g4
          have hsl : z_sl H a c (f c) := ⟨_, g3, rfl, arrV_read _ _ hcn⟩
          unfold z_seg at hv0
          cases hfi : sg.find? (fun g => z_ile (g.1.1 : Int) ((c : Int), (c : Int)).1 && z_ile ((c : Int), (c : Int)).2 (g.1.2 : Int)) with
          | none => rw [hfi] at hv0; cases hv0
          | some g =>
            rw [hfi] at hv0
            cases hv0
            have hm := List.mem_of_find?_eq_some hfi
            have hp := List.find?_some hfi
            rw [Bool.and_eq_true] at hp
            have p1 := z_ile_ok hp.1
            have p2 := z_ile_ok hp.2
            have hv := g7 g hm c hcn (by omega) (by omega)
            have hn : (env ++ [f c])[z_n st]? = some (f c) := by rw [← hs.1]; simp
            refine ⟨[f c], a, f c, ⟨by show (env ++ [f c]).length = z_n st + 1; rw [List.length_append, hs.1]; rfl, z_pre_app (w1 := []) hs.2.1, z_ls_app hs.2.2.1, z_stk_app hs.2.2.2.1, fun f2 hf => ?_, z_ff_app hs.2.2.2.2.2.1, fun f2 hf => ?_, z_fr_app hs.2.2.2.2.2.2.2.1, z_fx_app hs.2.2.2.2.2.2.2.2.1, hs.2.2.2.2.2.2.2.2.2⟩, ⟨rfl, rfl, rfl, rfl, rfl, Nat.le_succ _⟩, g1, hn, hsl⟩
            · rcases List.mem_cons.mp hf with rfl | hf
              · exact ⟨_, hn, hv⟩
              · exact z_fv_app hs.2.2.2.2.1 f2 hf
            · rcases List.mem_cons.mp hf with rfl | hf
              · exact ⟨a, i, _, z_app g1, z_app hj, by omega, hn, by rw [hi]; simpa using hsl⟩
              · exact z_fe_app hs.2.2.2.2.2.2.1 f2 hf
        · cases h
      · cases h
    · cases h
theorem z_gl_ok {d w : Nat} {q : zLoc} {r : vw_C} (hr : cl[q.2.1]? = some r) (hk : q.2.2.1 < r.2.2) (h : z_gl TY st d q = some (st', w)) (hs : z_sat OB D DA cl TY PHI sz raw pu T0 H0 env0 nL st T H locs env ls stk) :
    ∃ (x : List Value) (v : Value), z_sat OB D DA cl TY PHI sz raw pu T0 H0 env0 nL st' T H locs (env ++ x) ls stk ∧ z_ext st st' ∧ (env ++ x)[w]? = some v ∧ z_lv D cl H (env[d]?) q v := by
  unfold z_gl at h
  split at h
  · rename_i st1 w1 h1
    obtain ⟨x, a, v, g1, g2, g3, g4, g5⟩ := z_gf_ok h1 hs
    split at h
    · rename_i ho
      cases h
      refine ⟨x, v, g1, g2, g4, a, r, g3, hr, hk, ?_⟩
      rw [ho]
      exact g5
    · rename_i c ho
      cases hc : Nat.ble c 1000000 with
      | false => rw [hc] at h; cases h
      | true =>
        rw [hc] at h
        obtain ⟨i, i1, i2, i3⟩ := z_gc_ok (Nat.le_of_ble_eq_true hc) g1
        obtain ⟨y, b, v2, k1, k2, k3, k4, k5⟩ := z_ge_ok i1 i2 h i3
        rw [z_app g4] at k3
        cases k3
        refine ⟨x ++ [.int i] ++ y, v2, by rw [← List.append_assoc, ← List.append_assoc]; exact k1, ?_, by rw [← List.append_assoc, ← List.append_assoc]; exact k4, a, r, g3, hr, hk, ?_⟩
        · obtain ⟨a1, a2, a3, a4, a5, a6⟩ := g2
          obtain ⟨b1, b2, b3, b4, b5, b6⟩ := k2
          exact ⟨b1.trans a1, b2.trans a2, b3.trans a3, b4.trans a4, b5.trans a5, Nat.le_trans a6 (Nat.le_trans (Nat.le_succ _) b6)⟩
        · rw [ho]
          exact ⟨b, g5, k5⟩
  · cases h
end ZGH
end
section
/-! Entry and end of a method. -/
def z_tys (DA : Nat → ClassId) : List (ClassId × FieldType) := [(DA 0, .int), (DA 1, .byte), (DA 2, .long)]
def z_gls (TY : List zTy) (cl : List vw_C) (As : List Nat) : List (zLoc × zV) → zS → Option (zS × List Nat)
  | [], st => some (st, [])
  | q :: r, st => match As[q.1.1]?, cl[q.1.2.1]? with
    | some d, some c => cond (Nat.blt q.1.2.2.1 c.2.2) (match z_gl TY st d q.1 with
      | some (st1, w) => (match z_gls TY cl As r st1 with
        | some (st2, ws) => some (st2, w :: ws)
        | none => none)
      | none => none) none
    | _, _ => none
def z_en : Nat → List zV → List (Nat × zV)
  | _, [] => []
  | i, c :: r => (i, c) :: z_en (i + 1) r
theorem z_en_mem : ∀ {L : List zV} {i : Nat} {q : Nat × zV}, q ∈ z_en i L → ∃ j, L[j]? = some q.2 ∧ q.1 = i + j
  | [], i, q, h => absurd h List.not_mem_nil
  | c :: r, i, q, h => by
    rcases List.mem_cons.mp h with rfl | h
    · exact ⟨0, rfl, rfl⟩
    · obtain ⟨j, h1, h2⟩ := z_en_mem h
      exact ⟨j + 1, by simpa using h1, by omega⟩
def z_c1 (c : zV) : Bool := match c with
  | .inl _ => true
  | .inr (.inl _) => true
  | .inr (.inr 0) => false
  | .inr (.inr (_ + 1)) => true
def z_Pre (OB : Nat → Nat) (D : va_G) (DA : Nat → ClassId) (cl : List vw_C) (FT : Nat → Nat → FieldType) (TY : List zTy) (sz : Nat) (KX : State → Heap → Prop) (g : zSig) (T : zTp) (args : Array Value) (U : State) : Prop :=
  ∃ vals : List Value, args = vals.toArray ∧ vals.length = (g_prm g).length ∧
    (∀ j c, (g_prm g)[j]? = some c → (g_raw g = none ∨ j ≠ 0) → ∃ v, vals[j]? = some v ∧ z_v OB T c v) ∧
    (∀ ci, g_raw g = some ci → ∃ a r V, vals[0]? = some (.ref a) ∧ T a = none ∧ sz ≤ a ∧ cl[ci]? = some r ∧ t_OB a (D.1 ci) r.2.2 (D.2 ci) U.heap V ∧ ∀ k, k < r.2.2 → z_zf (FT ci k) = true → V k = .int 0) ∧
    (∀ q ∈ g_loc g, ∃ w, z_lv D cl U.heap (vals[q.1.1]?) q.1 w ∧ z_v OB T q.2 w) ∧
    z_ht OB D DA cl TY T U.heap ∧ (∀ a t, T a = some t → sz ≤ a) ∧ sz ≤ U.heap.size ∧ va_K D cl (z_tys DA) U ∧ KX U U.heap
/-- one of a method's ends -/
def z_Cs (OB : Nat → Nat) (D : va_G) (cl : List vw_C) (g : zSig) (T' : zTp) (vals : List Value) (H H' : Heap) (v : Option Value) (P : zP) : Prop :=
  (∀ q ∈ P.1, ∃ x, vals[q.1]? = some x ∧ z_v OB T' q.2 x) ∧
  (match P.2.1, v with
    | none, none => True
    | some c, some x => z_v OB T' c x
    | _, _ => False) ∧
  (∀ q ∈ P.2.2.2, ∃ w, z_lv D cl H' (vals[q.1.1]?) q.1 w ∧ z_v OB T' q.2 w) ∧
  (∀ (i : Nat) (q : zLoc × zV) (h : zV × Option Int × Option Int), (g_loc g)[i]? = some q → P.2.2.1[i]? = some h → ∃ w0 w, z_lv D cl H (vals[q.1.1]?) q.1 w0 ∧ z_lv D cl H' (vals[q.1.1]?) q.1 w ∧ z_v OB T' h.1 w ∧
    (∀ k, h.2.1 = some k → ∃ x y : Int32, w0 = .int x ∧ w = .int y ∧ x.toInt + k ≤ y.toInt) ∧ (∀ k, h.2.2 = some k → ∃ x y : Int32, w0 = .int x ∧ w = .int y ∧ y.toInt ≤ x.toInt + k))
def z_Post (OB : Nat → Nat) (D : va_G) (DA : Nat → ClassId) (cl : List vw_C) (TY : List zTy) (PHI : List (List Nat)) (sz : Nat) (g : zSig) (T : zTp) (args : Array Value) (st : State) (o : Outcome) (t : State) : Prop :=
  ∃ (vals : List Value) (v : Option Value) (T' : zTp), args = vals.toArray ∧ o = .returned v ∧ z_ht OB D DA cl TY T' t.heap ∧ (∀ a u, T' a = some u → sz ≤ a) ∧ (∀ a u, T a = some u → T' a = some (z_phi PHI (g_ph g) u)) ∧
    (∀ q, q < st.heap.size → T q = none → ((g_raw g).isSome = true → vals[0]? ≠ some (.ref q)) → T' q = none ∧ t.heap[q]? = st.heap[q]?) ∧ st.heap.size ≤ t.heap.size ∧ (∀ q, q < st.heap.size → ¬ sz ≤ q → t.heap[q]? = st.heap[q]?) ∧
    ((g_pur g = true → t.heap = st.heap ∧ T' = T) ∧ z_fin D cl TY T st.heap T' t.heap) ∧ ∃ P ∈ g_pst g, z_Cs OB D cl g T' vals st.heap t.heap v P
/-- the state at the entry, and the symbols of the places -/
def z_ent (TY : List zTy) (cl : List vw_C) (FT : Nat → Nat → FieldType) (nL : Nat) (g : zSig) : Option (zS × List Nat) :=
  cond ((g_prm g).all z_c1 && Nat.ble (g_prm g).length nL) (match g_raw g with
    | none => (match z_gls TY cl (List.range (g_prm g).length) (g_loc g) ((List.range (g_prm g).length).map (fun i => (i, i)), [], (g_prm g).length, z_en 0 (g_prm g), [], [], [], [], (0, 0), 0) with
      | some (st, ws) => some (z_mor st [] (ws.zip ((g_loc g).map (fun q => q.2))) [], ws)
      | none => none)
    | some ci => (match cl[ci]?, g_loc g, g_prm g with
      | some r, [], _ :: ps => some (((List.range (ps.length + 1)).map (fun i => (i, i)), [], ps.length + 2, (ps.length + 1, .inl (0, 0)) :: z_en 1 ps, ((List.range r.2.2).filter (fun k => z_zf (FT ci k))).map (fun k => (0, ci, k, ps.length + 1)), [], [], [(0, ci)], (0, 0), 0), [])
      | _, _, _ => none)) none
/-- the ends that fit -/
def z_ret (TY : List zTy) (cl : List vw_C) (g : zSig) (ws : List Nat) (st : zS) (rid : Option Nat) : Bool :=
  Nat.beq (z_ph st) (g_ph g) && Nat.ble (z_C st).1 (g_mk g).1 && Nat.ble (z_C st).2 (g_mk g).2 &&
  (match z_gls TY cl (List.range (g_prm g).length) (g_loc g) st with
    | some (st2, fs) => (g_pst g).any (fun P => P.1.all (fun q => match z_get (z_V st2) q.1 with
        | some c => z_le c q.2 && Nat.blt q.1 (g_prm g).length
        | none => false) &&
      (match P.2.1, rid with
        | none, none => true
        | some c, some r => (match z_get (z_V st2) r with
          | some c' => z_le c' c
          | none => false)
        | _, _ => false) &&
      (match z_gls TY cl (List.range (g_prm g).length) P.2.2.2 st2 with
        | some (st3, ns) => (List.range P.2.2.2.length).all (fun i => match P.2.2.2[i]?, ns[i]? with
          | some q, some w => (match z_get (z_V st3) w with
            | some c => z_le c q.2
            | none => false)
          | _, _ => false)
        | none => false) &&
      (List.range (g_loc g).length).all (fun i => match P.2.2.1[i]?, ws[i]?, fs[i]? with
        | some h, some w0, some w => (match z_get (z_V st2) w with
          | some c => z_le c h.1
          | none => false) && (match h.2.1 with
          | some k => z_isi st2 w && z_isi st2 w0 && z_kx (z_R st2) w w0 k
          | none => true) && (match h.2.2 with
          | some k => z_isi st2 w && z_isi st2 w0 && z_kx (z_R st2) w0 w (-k)
          | none => true)
        | none, _, _ => true
        | _, _, _ => false))
    | none => false)
section ZENDS
variable {OB : Nat → Nat} {D : va_G} {DA : Nat → ClassId} {cl : List vw_C} {FT : Nat → Nat → FieldType} {TY : List zTy} {PHI : List (List Nat)} {sz : Nat} {raw : Option Nat} {pu : Bool} {T0 : zTp} {H0 : Heap} {env0 : List Value} {nL : Nat} {st st' : zS} {T : zTp} {H : Heap} {locs : List Loc} {env : List Value} {ls : Array Slot} {stk : List Value}
theorem z_ext_rf : z_ext st st := ⟨rfl, rfl, rfl, rfl, rfl, Nat.le_refl _⟩
theorem z_ext_tr {s1 s2 s3 : zS} (a : z_ext s1 s2) (b : z_ext s2 s3) : z_ext s1 s3 := by
  obtain ⟨a1, a2, a3, a4, a5, a6⟩ := a
  obtain ⟨b1, b2, b3, b4, b5, b6⟩ := b
  exact ⟨b1.trans a1, b2.trans a2, b3.trans a3, b4.trans a4, b5.trans a5, Nat.le_trans a6 b6⟩
theorem z_lv_app {d : Nat} {x : List Value} {q : zLoc} {v : Value} (h : z_lv D cl H (env[d]?) q v) : z_lv D cl H ((env ++ x)[d]?) q v := by
  obtain ⟨a, r, e1, e2⟩ := h
  exact ⟨a, r, z_app e1, e2⟩
theorem z_gls_ok {As : List Nat} : ∀ {L : List (zLoc × zV)} {st st' : zS} {env : List Value} {ws : List Nat}, z_gls TY cl As L st = some (st', ws) → z_sat OB D DA cl TY PHI sz raw pu T0 H0 env0 nL st T H locs env ls stk →
    ∃ x, z_sat OB D DA cl TY PHI sz raw pu T0 H0 env0 nL st' T H locs (env ++ x) ls stk ∧ z_ext st st' ∧ ws.length = L.length ∧ ∀ (i : Nat) (q : zLoc × zV) (w : Nat), L[i]? = some q → ws[i]? = some w → ∃ (v : Value) (d : Nat), (env ++ x)[w]? = some v ∧ As[q.1.1]? = some d ∧ z_lv D cl H ((env ++ x)[d]?) q.1 v
  | [], st, st', env, ws, h, hs => by
    cases h
    exact ⟨[], by rw [List.append_nil]; exact hs, z_ext_rf, rfl, fun i q w h1 => by simp at h1⟩
  | q :: r, st, st', env, ws, h, hs => by
    unfold z_gls at h
    split at h
    · rename_i d c hd hc
      cases hb : Nat.blt q.1.2.2.1 c.2.2 with
      | false => rw [hb] at h; cases h
      | true =>
        rw [hb] at h
        cases h1 : z_gl TY st d q.1 with
        | none => rw [h1] at h; cases h
        | some y =>
          obtain ⟨st1, w⟩ := y
          rw [h1] at h
          obtain ⟨x, v, g1, g2, g3, g4⟩ := z_gl_ok hc (z_blt hb) h1 hs
          cases h2 : z_gls TY cl As r st1 with
          | none => simp only [h2] at h; cases h
          | some z =>
            obtain ⟨st2, ws2⟩ := z
            simp only [h2] at h
            cases h
            obtain ⟨x2, k1, k2, k3, k4⟩ := z_gls_ok h2 g1
            refine ⟨x ++ x2, by rw [← List.append_assoc]; exact k1, z_ext_tr g2 k2, by simp [k3], fun i q2 w2 hi hw => ?_⟩
            cases i with
            | zero =>
              have e1 : q = q2 := by simpa using hi
              have e2 : w = w2 := by simpa using hw
              subst e1; subst e2
              exact ⟨v, d, by rw [← List.append_assoc]; exact z_app g3, hd, z_lv_app g4⟩
            | succ i =>
              obtain ⟨v2, d2, m1, m2, m3⟩ := k4 i q2 w2 (by simpa using hi) (by simpa using hw)
              exact ⟨v2, d2, by rw [← List.append_assoc]; exact m1, m2, by rw [← List.append_assoc]; exact m3⟩
    · cases h
end ZENDS
end
section
/-! The entry of a method; its returns. -/
section ZENTRY
variable {p : Program} {l : Launch} {e : Env} {R : Room} {s : State} {m : MethodId} {args : Array Value} {below : List Frame} {meth : Method} {c : Code} {Q : State → Prop} {cc : ByteArray} {pc : Nat}
variable {OB : Nat → Nat} {D : va_G} {DA : Nat → ClassId} {cl : List vw_C} {FT : Nat → Nat → FieldType} {TY : List zTy} {PHI : List (List Nat)} {sz : Nat} {raw : Option Nat} {pu : Bool} {T0 : zTp} {H0 : Heap} {env0 : List Value} {nL : Nat} {st st' : zS} {T : zTp} {H : Heap} {locs : List Loc} {env : List Value} {ls : Array Slot} {stk : List Value} {KX : State → Heap → Prop} {g : zSig}
theorem z_c1_ok {k : zV} {v : Value} (h : z_c1 k = true) (hv : z_v OB T k v) : v.category = 1 := by
  match k, h, hv with
  | .inl r, _, ⟨x, e, _⟩ => rw [e]; rfl
  | .inr (.inl t), _, ⟨a, e, _⟩ => rw [e]; rfl
  | .inr (.inr (k + 1)), _, e => 
    have e : v = .ref (OB k) := e
    rw [e]; rfl
theorem z_args1 : ∀ (vs : List Value) (i : Nat), (∀ v ∈ vs, v.category = 1) → (lg_sl vs).length = vs.length ∧ (∀ q ∈ lv_args i vs, q.2.category = 1) ∧ ∀ j v, vs[j]? = some v → (i + j, v) ∈ lv_args i vs
  | [], i, _ => ⟨rfl, fun q h => absurd h List.not_mem_nil, fun j v h => by simp at h⟩
  | x :: vs, i, h => by
    have hx := h x List.mem_cons_self
    have hne : ¬ x.category = 2 := by omega
    obtain ⟨h1, h2, h3⟩ := z_args1 vs (i + 1) (fun v hv => h v (List.mem_cons_of_mem _ hv))
    have e1 : lg_sl (x :: vs) = [.val x] ++ lg_sl vs := by
      unfold lg_sl
      rw [List.flatMap_cons, if_neg hne]
    have e2 : lv_args i (x :: vs) = (i, x) :: lv_args (i + 1) vs := by
      show (i, x) :: lv_args (if x.category = 2 then i + 2 else i + 1) vs = _
      rw [if_neg hne]
    refine ⟨by rw [e1]; simp [h1], fun q hq => ?_, fun j v hj => ?_⟩
    · rw [e2] at hq
      rcases List.mem_cons.mp hq with rfl | hq
      · exact hx
      · exact h2 q hq
    · rw [e2]
      cases j with
      | zero =>
        have : x = v := by simpa using hj
        rw [this]
        exact List.mem_cons_self
      | succ j =>
        have := h3 j v (by simpa using hj)
        rw [show i + (j + 1) = i + 1 + j by omega]
        exact List.mem_cons_of_mem _ this
theorem z_ls_entry {vals : List Value} (h1 : ∀ v ∈ vals, v.category = 1) (hn : vals.length ≤ nL) {x : List Value} : z_ls nL ((lg_sl vals ++ List.replicate (nL - (lg_sl vals).length) Slot.unset).toArray) (vals ++ x) ((List.range vals.length).map (fun i => (i, i))) := by
  obtain ⟨a1, a2, a3⟩ := z_args1 vals 0 h1
  refine ⟨_, lv_entry vals (by rw [a1]; exact hn), a2, fun q hq => ?_⟩
  obtain ⟨i, hi, rfl⟩ := List.mem_map.mp hq
  have hlt := List.mem_range.mp hi
  have hg := List.getElem?_eq_getElem hlt
  refine ⟨_, z_app hg, ?_⟩
  have := a3 i _ hg
  rwa [Nat.zero_add] at this
theorem z_vals1 {vals : List Value} (hl : vals.length = (g_prm g).length) (hc : (g_prm g).all z_c1 = true) (h1 : ∀ j c, (g_prm g)[j]? = some c → (g_raw g = none ∨ j ≠ 0) → ∃ v, vals[j]? = some v ∧ z_v OB T c v) (h2 : ∀ ci, g_raw g = some ci → ∃ a : Nat, vals[0]? = some (.ref a)) : ∀ v ∈ vals, v.category = 1 := by
  intro v hv
  obtain ⟨j, hj⟩ := List.getElem?_of_mem hv
  have hlt : j < (g_prm g).length := by rw [← hl]; exact (List.getElem?_eq_some_iff.mp hj).1
  have hg := List.getElem?_eq_getElem hlt
  cases hr : g_raw g with
  | none =>
    obtain ⟨w, e1, e2⟩ := h1 j _ hg (Or.inl hr)
    rw [hj] at e1
    cases e1
    exact z_c1_ok (List.all_eq_true.mp hc _ (List.getElem_mem hlt)) e2
  | some ci =>
    by_cases hj0 : j = 0
    · subst hj0
      obtain ⟨a, ha⟩ := h2 ci hr
      rw [hj] at ha
      cases ha
      rfl
    · obtain ⟨w, e1, e2⟩ := h1 j _ hg (Or.inr hj0)
      rw [hj] at e1
      cases e1
      exact z_c1_ok (List.all_eq_true.mp hc _ (List.getElem_mem hlt)) e2
theorem z_sat_env0 (h : z_sat OB D DA cl TY PHI sz raw pu T0 H0 env0 nL st T H locs env ls stk) : z_sat OB D DA cl TY PHI sz raw pu T0 H0 env nL st T H locs env ls stk := ⟨h.1, ⟨[], by rw [List.append_nil]⟩, h.2.2⟩
/-- what the entry gives -/
theorem z_ent_ok {ws : List Nat} {U : State} {vals : List Value} (hp : z_Pre OB D DA cl FT TY sz KX g T vals.toArray U) (h : z_ent TY cl FT nL g = some (st, ws)) :
    (∀ v ∈ vals, v.category = 1) ∧ vals.length ≤ nL ∧ ∃ (env : List Value) (raw : Option Nat), (∀ q, raw = some q ↔ ((g_raw g).isSome = true ∧ vals[0]? = some (.ref q))) ∧
      z_sat OB D DA cl TY PHI sz raw pu T U.heap env nL st T U.heap [] env ((lg_sl vals ++ List.replicate (nL - (lg_sl vals).length) Slot.unset).toArray) [] ∧ vals.length = (g_prm g).length ∧ (∀ (j : Nat) (v : Value), vals[j]? = some v → env[j]? = some v) ∧
      ws.length = (g_loc g).length ∧ (∀ (i : Nat) (q : zLoc × zV) (w : Nat), (g_loc g)[i]? = some q → ws[i]? = some w → ∃ v : Value, env[w]? = some v ∧ z_lv D cl U.heap (vals[q.1.1]?) q.1 v) := by
  obtain ⟨vals2, e0, hl, h1, h2, h3, h4, h5, h6, h7, h8⟩ := hp
  have : vals = vals2 := by
    have := congrArg Array.toList e0
    simpa using this
  subst this
  unfold z_ent at h
  cases hc : ((g_prm g).all z_c1 && Nat.ble (g_prm g).length nL) with
  | false => rw [hc] at h; cases h
  | true =>
    rw [hc] at h
    rw [Bool.and_eq_true] at hc
    have hcat := z_vals1 hl hc.1 h1 (fun ci hci => by obtain ⟨a, r, V, x, _⟩ := h2 ci hci; exact ⟨a, x⟩)
    have hn : vals.length ≤ nL := by rw [hl]; exact Nat.le_of_ble_eq_true hc.2
    refine ⟨hcat, hn, ?_⟩
    have hmem : ∀ raw : Option Nat, z_mem OB D DA cl TY PHI sz raw pu T U.heap T U.heap [] 0 := fun raw => ⟨h4, ⟨h5, fun _ => ⟨rfl, rfl⟩, z_fin_rf⟩, fun a t ht => ht, fun q _ hq _ => ⟨hq, rfl⟩, va_S.rf⟩
    cases hr : g_raw g with
    | none =>
      simp only [hr, cond_true] at h
      have hs0 : z_sat OB D DA cl TY PHI sz none pu T U.heap vals nL ((List.range (g_prm g).length).map (fun i => (i, i)), [], (g_prm g).length, z_en 0 (g_prm g), [], [], [], [], (0, 0), 0) T U.heap [] vals ((lg_sl vals ++ List.replicate (nL - (lg_sl vals).length) Slot.unset).toArray) [] := by
        refine ⟨hl, ⟨[], by rw [List.append_nil]⟩, ?_, rfl, fun q hq => ?_, fun q hq => absurd hq List.not_mem_nil, fun q hq => absurd hq List.not_mem_nil, fun q hq => absurd hq List.not_mem_nil, trivial, hmem none⟩
        · have := z_ls_entry (x := []) hcat hn
          rw [List.append_nil, hl] at this
          exact this
        · obtain ⟨j, hj, he⟩ := z_en_mem hq
          obtain ⟨v, e1, e2⟩ := h1 j _ hj (Or.inl hr)
          rw [he, Nat.zero_add]
          exact ⟨v, e1, e2⟩
      cases hgl : z_gls TY cl (List.range (g_prm g).length) (g_loc g) ((List.range (g_prm g).length).map (fun i => (i, i)), [], (g_prm g).length, z_en 0 (g_prm g), [], [], [], [], (0, 0), 0) with
      | none => rw [hgl] at h; cases h
      | some y =>
        obtain ⟨st1, ws1⟩ := y
        simp only [hgl] at h
        cases h
        obtain ⟨x, g1, g2, g3, g4⟩ := z_gls_ok hgl hs0
        have lookup : ∀ (i : Nat) (q : zLoc × zV) (w : Nat), (g_loc g)[i]? = some q → ws[i]? = some w → ∃ v : Value, (vals ++ x)[w]? = some v ∧ z_lv D cl U.heap (vals[q.1.1]?) q.1 v := by
          intro i q w hi hw
          obtain ⟨v, d, m1, m2, m3⟩ := g4 i q w hi hw
          refine ⟨v, m1, ?_⟩
          have hd := List.getElem?_eq_some_iff.mp m2
          obtain ⟨hd1, hd2⟩ := hd
          have hd3 : d = q.1.1 := by simpa using hd2.symm
          have hlt : q.1.1 < vals.length := by rw [hl]; simpa using hd1
          rw [hd3, List.getElem?_append_left hlt] at m3
          exact m3
        refine ⟨vals ++ x, none, fun q => by simp, z_sat_env0 (z_sat_mor g1 (S := []) rfl (fun q hq => ?_) (fun q hq => absurd hq List.not_mem_nil)), hl, fun j v hj => z_app hj, g3, lookup⟩
        obtain ⟨i, hi⟩ := List.getElem?_of_mem hq
        rw [List.getElem?_zip_eq_some] at hi
        obtain ⟨hi1, hi2⟩ := hi
        rw [List.getElem?_map] at hi2
        cases hq2 : (g_loc g)[i]? with
        | none => rw [hq2] at hi2; cases hi2
        | some q2 =>
          rw [hq2] at hi2
          have hi3 : q2.2 = q.2 := by simpa using hi2
          obtain ⟨v, m1, m2⟩ := lookup i q2 q.1 hq2 hi1
          obtain ⟨w0, n1, n2⟩ := h3 q2 (List.mem_of_getElem? hq2)
          have := z_lv_fun m2 n1
          subst this
          exact ⟨v, m1, by rw [← hi3]; exact n2⟩
    | some ci =>
      simp only [hr, cond_true] at h
      obtain ⟨a, r, V, a1, a2, a3, a4, a5, a6⟩ := h2 ci hr
      split at h
      · rename_i r2 c0 ps hr2 hlo hps
        cases h
        rw [a4] at hr2
        cases hr2
        have hl2 : vals.length = ps.length + 1 := by rw [hl, hps]; rfl
        have n1 : (vals ++ [Value.int 0])[ps.length + 1]? = some (.int 0) := by rw [← hl2]; simp
        refine ⟨vals ++ [.int 0], some a, fun q => ?_, ⟨by show (vals ++ [Value.int 0]).length = ps.length + 2; rw [List.length_append, hl2]; rfl, ⟨[], by rw [List.append_nil]⟩, ?_, rfl, fun q hq => ?_, fun q hq => ?_, fun q hq => absurd hq List.not_mem_nil, fun q hq => absurd hq List.not_mem_nil, ⟨⟨a, z_app a1, a2, ⟨a3, Or.inr rfl⟩, ⟨r, V, a4, a5⟩, fun p hp => absurd hp List.not_mem_nil⟩, trivial⟩, hmem (some a)⟩, hl, fun j v hj => z_app hj, by rw [hlo]; rfl, fun i q w hi => by rw [hlo] at hi; simp at hi⟩
        · rw [a1]
          constructor
          · intro hh; cases hh; exact ⟨rfl, rfl⟩
          · rintro ⟨-, hh⟩; cases hh; rfl
        · have := z_ls_entry (x := [.int 0]) hcat hn
          rw [hl2] at this
          exact this
        · rcases List.mem_cons.mp hq with rfl | hq
          · exact ⟨_, n1, 0, rfl, Int.le_refl _, Int.le_refl _⟩
          · obtain ⟨j, hj, he⟩ := z_en_mem hq
            obtain ⟨v, e1, e2⟩ := h1 (j + 1) q.2 (by rw [hps]; simpa using hj) (Or.inr (by omega))
            rw [he, Nat.add_comm]
            exact ⟨v, z_app e1, e2⟩
        · have hq : q ∈ ((List.range r.2.2).filter (fun k => z_zf (FT ci k))).map (fun k => (0, ci, k, ps.length + 1)) := hq
          obtain ⟨k1, hk1, rfl⟩ := List.mem_map.mp hq
          obtain ⟨hk2, hk3⟩ := List.mem_filter.mp hk1
          have hlt := List.mem_range.mp hk2
          refine ⟨a, .int 0, r, z_app a1, n1, a4, hlt, ?_⟩
          obtain ⟨cell, x1, x2, x3, x4⟩ := a5
          refine ⟨cell, x1, x3, ?_⟩
          show cell.slots[D.2 ci k1]? = some (.int 0)
          rw [x4 _ hlt, a6 k1 hlt hk3]
      · cases h
end ZENTRY
end
section
/-! Returns. -/
section ZRETURN
variable {p : Program} {l : Launch} {e : Env} {R : Room} {s : State} {m : MethodId} {below : List Frame} {meth : Method} {c : Code} {cc : ByteArray} {pc : Nat}
variable {OB : Nat → Nat} {D : va_G} {DA : Nat → ClassId} {cl : List vw_C} {FT : Nat → Nat → FieldType} {TY : List zTy} {PHI : List (List Nat)} {sz : Nat} {raw : Option Nat} {pu : Bool} {T0 : zTp} {H0 : Heap} {env0 : List Value} {nL : Nat} {st st' : zS} {T : zTp} {H : Heap} {locs : List Loc} {env : List Value} {ls : Array Slot} {stk : List Value} {g : zSig} {vals : List Value} {ws : List Nat}
/-- what is known of the entry -/
def z_Ent (D : va_G) (cl : List vw_C) (g : zSig) (raw : Option Nat) (pu : Bool) (H0 : Heap) (env0 : List Value) (vals : List Value) (ws : List Nat) : Prop :=
  (∀ q, raw = some q ↔ ((g_raw g).isSome = true ∧ vals[0]? = some (.ref q))) ∧ (g_pur g = true → pu = true) ∧ vals.length = (g_prm g).length ∧ (∀ (j : Nat) (v : Value), vals[j]? = some v → env0[j]? = some v) ∧
  ws.length = (g_loc g).length ∧ (∀ (i : Nat) (q : zLoc × zV) (w : Nat), (g_loc g)[i]? = some q → ws[i]? = some w → ∃ v : Value, env0[w]? = some v ∧ z_lv D cl H0 (vals[q.1.1]?) q.1 v)
theorem z_kn_int {x y : Nat} {n : Int} (h : (z_isi st x && z_isi st y && z_kx (z_R st) x y n) = true) (hs : z_sat OB D DA cl TY PHI sz raw pu T0 H0 env0 nL st T H locs env ls stk) : ∃ vx vy : Int32, env[x]? = some (.int vx) ∧ env[y]? = some (.int vy) ∧ vy.toInt + n ≤ vx.toInt := by
  simp only [Bool.and_eq_true] at h
  obtain ⟨vx, e1⟩ := z_isi_ok h.1.1 hs
  obtain ⟨vy, e2⟩ := z_isi_ok h.1.2 hs
  exact ⟨vx, vy, e1, e2, z_kx_ok hs.2.2.2.2.2.2.2.1 e1 e2 h.2⟩
theorem z_ret_ok {rid : Option Nat} {v : Option Value} (hE : z_Ent D cl g raw pu s.heap env0 vals ws) (h : z_ret TY cl g ws st rid = true) (hs : z_sat OB D DA cl TY PHI sz raw pu T0 s.heap env0 nL st T H locs env ls stk) (hv : match rid, v with | none, none => True | some r, some x => env[r]? = some x | _, _ => False) {t : State} (ht : t.heap = H) :
    (z_C st).1 ≤ (g_mk g).1 ∧ (z_C st).2 ≤ (g_mk g).2 ∧ z_Post OB D DA cl TY PHI sz g T0 vals.toArray s (.returned v) t := by
  obtain ⟨hraw, hpur, hlen, hvals, hwl, hws⟩ := hE
  unfold z_ret at h
  simp only [Bool.and_eq_true] at h
  obtain ⟨⟨⟨hph, hc1⟩, hc2⟩, h⟩ := h
  refine ⟨Nat.le_of_ble_eq_true hc1, Nat.le_of_ble_eq_true hc2, ?_⟩
  split at h
  · rename_i st2 fs hgl
    obtain ⟨x, g1, g2, g3, g4⟩ := z_gls_ok hgl hs
    obtain ⟨m1, ⟨m2, m3, mf⟩, m4, m5, m6⟩ := hs.2.2.2.2.2.2.2.2.2
    rw [z_beq hph] at m4
    obtain ⟨w0, hw0⟩ := hs.2.1
    have hx0 : ∀ (j : Nat) (v : Value), vals[j]? = some v → (env ++ x)[j]? = some v := fun j v hj => z_app (by rw [hw0]; exact z_app (hvals j v hj))
    have hget : ∀ (w : Nat) (v : Value), env0[w]? = some v → (env ++ x)[w]? = some v := fun w v hw => z_app (by rw [hw0]; exact z_app hw)
    obtain ⟨P, hP, hP2⟩ := List.any_eq_true.mp h
    simp only [Bool.and_eq_true] at hP2
    obtain ⟨⟨⟨hA, hR⟩, hN⟩, hL⟩ := hP2
    subst ht
    refine ⟨vals, v, T, rfl, rfl, m1, m2, m4, fun q hq1 hq2 hq3 => m5 q hq1 hq2 (fun hr => ?_), m6.1, fun q hq1 hq2 => m6.2.1 q hq1 hq2, ⟨fun hp => ?_, mf⟩, P, hP, fun q hq => ?_, ?_, fun q hq => ?_, fun i q hh hi hh2 => ?_⟩
    · obtain ⟨y1, y2⟩ := (hraw q).mp hr
      exact hq3 y1 y2
    · obtain ⟨y1, y2⟩ := m3 (hpur hp)
      exact ⟨y1, y2⟩
    · have h1 := List.all_eq_true.mp hA q hq
      split at h1
      · rename_i c0 hc0
        rw [Bool.and_eq_true] at h1
        obtain ⟨w, e1, e2⟩ := z_get_ok g1.2.2.2.2.1 hc0
        have hlt : q.1 < vals.length := by rw [hlen]; exact z_blt h1.2
        have hg := List.getElem?_eq_getElem hlt
        have := hx0 _ _ hg
        rw [e1] at this
        cases this
        exact ⟨_, hg, z_le_ok h1.1 e2⟩
      · cases h1
    · cases hp2 : P.2.1 with
      | none =>
        rw [hp2] at hR
        cases rid with
        | none =>
          cases v with
          | none => trivial
          | some x => exact hv
        | some r => cases hR
      | some c0 =>
        rw [hp2] at hR
        cases rid with
        | none => cases hR
        | some r =>
          cases v with
          | none => exact hv
          | some x2 =>
            have hR : (match z_get (z_V st2) r with
              | some c' => z_le c' c0
              | none => false) = true := hR
            split at hR
            · rename_i c2 hc2
              obtain ⟨w, e1, e2⟩ := z_get_ok g1.2.2.2.2.1 hc2
              have hv : env[r]? = some x2 := hv
              rw [z_app hv] at e1
              cases e1
              exact z_le_ok hR e2
            · cases hR
    · split at hN
      · rename_i st3 ns hgn
        obtain ⟨x3, k1, k2, k3, k4⟩ := z_gls_ok hgn g1
        obtain ⟨i, hi⟩ := List.getElem?_of_mem hq
        have hlt : i < P.2.2.2.length := (List.getElem?_eq_some_iff.mp hi).1
        have h1 := List.all_eq_true.mp hN i (List.mem_range.mpr hlt)
        have hni := List.getElem?_eq_getElem (show i < ns.length by omega)
        rw [hi, hni] at h1
        obtain ⟨v1, d, z1, z2, z3⟩ := k4 i q _ hi hni
        obtain ⟨hd1, hd2⟩ := List.getElem?_eq_some_iff.mp z2
        have hd3 : d = q.1.1 := by simpa using hd2.symm
        have hlt2 : q.1.1 < vals.length := by rw [hlen]; simpa using hd1
        have hg2 := List.getElem?_eq_getElem hlt2
        rw [hd3, z_app (hx0 _ _ hg2), ← hg2] at z3
        refine ⟨v1, z3, ?_⟩
        have h1 : (match z_get (z_V st3) ns[i] with
          | some c => z_le c q.2
          | none => false) = true := h1
        split at h1
        · rename_i c0 hc0
          obtain ⟨w, e1, e2⟩ := z_get_ok k1.2.2.2.2.1 hc0
          rw [z1] at e1
          cases e1
          exact z_le_ok h1 e2
        · cases h1
      · cases hN
    · have hlt : i < (g_loc g).length := (List.getElem?_eq_some_iff.mp hi).1
      have h1 := List.all_eq_true.mp hL i (List.mem_range.mpr hlt)
      have hwi := List.getElem?_eq_getElem (show i < ws.length by omega)
      have hfi := List.getElem?_eq_getElem (show i < fs.length by omega)
      rw [hh2, hwi, hfi] at h1
      simp only [Bool.and_eq_true] at h1
      obtain ⟨⟨h2, h3⟩, h4⟩ := h1
      obtain ⟨v0, y1, y2⟩ := hws i q _ hi hwi
      obtain ⟨v1, d, z1, z2, z3⟩ := g4 i q _ hi hfi
      obtain ⟨hd1, hd2⟩ := List.getElem?_eq_some_iff.mp z2
      have hd3 : d = q.1.1 := by simpa using hd2.symm
      have hlt2 : q.1.1 < vals.length := by rw [hlen]; simpa using hd1
      have hg2 := List.getElem?_eq_getElem hlt2
      rw [hd3, hx0 _ _ hg2, ← hg2] at z3
      refine ⟨v0, v1, y2, z3, ?_, fun k hk => ?_, fun k hk => ?_⟩
      · split at h2
        · rename_i c0 hc0
          obtain ⟨w, e1, e2⟩ := z_get_ok g1.2.2.2.2.1 hc0
          rw [z1] at e1
          cases e1
          exact z_le_ok h2 e2
        · cases h2
      · rw [hk] at h3
        obtain ⟨vx, vy, n1, n2, n3⟩ := z_kn_int h3 g1
        rw [z1] at n1
        rw [hget _ _ y1] at n2
        cases n1; cases n2
        exact ⟨vy, vx, rfl, rfl, n3⟩
      · rw [hk] at h4
        simp only [Bool.and_eq_true] at h4
        have h5 : (z_isi st2 ws[i] && z_isi st2 fs[i] && z_kx (z_R st2) ws[i] fs[i] (-k)) = true := by
          simp only [Bool.and_eq_true]
          exact ⟨⟨h4.1.2, h4.1.1⟩, h4.2⟩
        obtain ⟨vx, vy, n1, n2, n3⟩ := z_kn_int h5 g1
        rw [z1] at n2
        rw [hget _ _ y1] at n1
        cases n1; cases n2
        exact ⟨vx, vy, rfl, rfl, by omega⟩
  · cases h
/-- a return with an answer -/
def z_iret (TY : List zTy) (cl : List vw_C) (g : zSig) (ws : List Nat) (ret : Option FieldType) (st : zS) : Bool := match z_S st, ret with
  | [r], some .int => z_isi st r && z_ret TY cl g ws st (some r)
  | [r], some .boolean => (match z_get (z_V st) r with
    | some (.inl a) => z_ile 0 a.1 && z_ile a.2 1
    | _ => false) && z_ret TY cl g ws st (some r)
  | _, _ => false
theorem z_r_vret {good : Nat → zS → Prop} (hg : z_Good p l e R s m vals.toArray below meth c (MQ below (z_Post OB D DA cl TY PHI sz g T0) vals.toArray s (g_mk g).1 (g_mk g).2 (fun q => sz ≤ q)) OB D DA cl TY PHI sz raw pu T0 s.heap env0 nL good) (hx : p.tables.exec = Jvm.exec) (hb : c.code = cc) (hr : meth.sig.returnType = none) (hlocks : meth.locks = false) (hE : z_Ent D cl g raw pu s.heap env0 vals ws) (hd : decode cc pc = .ok (.return_, 1)) (hS : z_S st = []) (h : z_ret TY cl g ws st none = true) : good pc st := by
  refine (hg _ _).mpr fun T H locs env ls stk hs => ?_
  have hk := hs.2.2.2.1
  rw [hS] at hk
  have hk : stk = [] := hk
  subst hk
  obtain ⟨c1, c2, -⟩ := z_ret_ok (v := none) (t := { s with heap := H }) hE h hs trivial rfl
  refine W.widen c1 c2 (W.vret hx hb hr (fun t ht _ => (z_ret_ok (v := none) hE h hs trivial ht).2.2) (fun q hq => ?_) hd hlocks)
  exact hs.2.2.2.2.2.2.2.2.2.2.2.2.2.2.2 q hq
theorem z_r_iret {good : Nat → zS → Prop} {ret : Option FieldType} (hg : z_Good p l e R s m vals.toArray below meth c (MQ below (z_Post OB D DA cl TY PHI sz g T0) vals.toArray s (g_mk g).1 (g_mk g).2 (fun q => sz ≤ q)) OB D DA cl TY PHI sz raw pu T0 s.heap env0 nL good) (hx : p.tables.exec = Jvm.exec) (hb : c.code = cc) (hr : meth.sig.returnType = ret) (hlocks : meth.locks = false) (hE : z_Ent D cl g raw pu s.heap env0 vals ws) (hd : decode cc pc = .ok (.ireturn, 1)) (h : z_iret TY cl g ws ret st = true) : good pc st := by
  refine (hg _ _).mpr fun T H locs env ls stk hs => ?_
  unfold z_iret at h
  split at h
  · rename_i r hS
    rw [Bool.and_eq_true] at h
    obtain ⟨v, k, rfl, e1, hk⟩ := z_stk_cons hS hs.2.2.2.1
    have hk : k = [] := hk
    subst hk
    obtain ⟨x, e2⟩ := z_isi_ok h.1 hs
    rw [e1] at e2
    cases e2
    obtain ⟨c1, c2, -⟩ := z_ret_ok (v := some (.int x)) (t := { s with heap := H }) hE h.2 hs e1 rfl
    refine W.widen c1 c2 (W.iret hx hb hr (fun t ht _ => (z_ret_ok (v := some (.int x)) hE h.2 hs e1 ht).2.2) (fun q hq => ?_) hd hlocks)
    exact hs.2.2.2.2.2.2.2.2.2.2.2.2.2.2.2 q hq
  · rename_i r hS
    rw [Bool.and_eq_true] at h
    obtain ⟨v, k, rfl, e1, hk⟩ := z_stk_cons hS hs.2.2.2.1
    have hk : k = [] := hk
    subst hk
    obtain ⟨h1, h2⟩ := h
    split at h1
    · rename_i a ha
      rw [Bool.and_eq_true] at h1
      obtain ⟨w, e2, hw⟩ := z_get_ok hs.2.2.2.2.1 ha
      rw [e1] at e2
      cases e2
      obtain ⟨hn, -⟩ := z_fit_ok (ty := .boolean) (c := .inl a) (by unfold z_fit; rw [Bool.and_eq_true]; exact h1) hw
      obtain ⟨x, rfl, -⟩ := hw
      obtain ⟨c1, c2, -⟩ := z_ret_ok (v := some (.int x)) (t := { s with heap := H }) hE h2 hs e1 rfl
      refine W.widen c1 c2 (W.zret hx hb hr hn (fun t ht _ => (z_ret_ok (v := some (.int x)) hE h2 hs e1 ht).2.2) (fun q hq => ?_) hd hlocks)
      exact hs.2.2.2.2.2.2.2.2.2.2.2.2.2.2.2 q hq
    · cases h1
  · cases h
end ZRETURN
end
section
/-! Calls. -/
def z_popn (n : Nat) (S : List Nat) : Option (List Nat × List Nat) := cond (Nat.ble n S.length) (some ((S.take n).reverse, S.drop n)) none
def z_csum (st : zS) : List Nat → Option Nat
  | [] => some 0
  | d :: S => match z_csum st S with
    | some n => cond (z_isi st d || z_isr st d) (some (n + 1)) (match z_get (z_V st) d with
      | some (.inr (.inr 0)) => some (n + 2)
      | _ => none)
    | none => none
/-- the arguments are such as are asked for -/
def z_pck (FT : Nat → Nat → FieldType) (cl : List vw_C) (g : zSig) (As gs : List Nat) (st : zS) : Bool :=
  (List.range (g_prm g).length).all (fun j => match (g_prm g)[j]?, As[j]? with
    | some c, some a => (match g_raw g with
        | some _ => Nat.beq j 0
        | none => false) || (match z_get (z_V st) a with
        | some c' => z_le c' c
        | none => false)
    | _, _ => false) &&
  (match g_raw g with
    | none => true
    | some ci => (match As[0]?, cl[ci]? with
      | some a, some r => (z_X st).any (fun p => Nat.beq p.1 a && Nat.beq p.2 ci) && (List.range r.2.2).all (fun k => !(z_zf (FT ci k)) || (match z_ffind st a ci k with
        | some w => (match z_get (z_V st) w with
          | some (.inl z) => z_ile 0 z.1 && z_ile z.2 0
          | _ => false)
        | none => false))
      | _, _ => false)) &&
  (List.range (g_loc g).length).all (fun i => match (g_loc g)[i]?, gs[i]? with
    | some q, some w => (match z_get (z_V st) w with
      | some c => z_le c q.2
      | none => false)
    | _, _ => false)
/-- what is known of a final field of a typed object -/
def z_fnl (TY : List zTy) (cl : List vw_C) (st : zS) (f : Nat × Nat × Nat × Nat) : Bool := match z_get (z_V st) f.1 with
  | some (.inr (.inl t)) => (match TY[t]?, cl[f.2.1]? with
    | some (.inl o), some r => Nat.beq o.1 f.2.1 && (r.2.1 f.2.2.1).2.2.2
    | _, _ => false)
  | _ => false
/-- behind the call, whatever the end -/
def z_bas (TY : List zTy) (cl : List vw_C) (PHI : List (List Nat)) (g : zSig) (As : List Nat) (st : zS) : zS :=
  (z_L st, z_S st, z_n st, cond (Nat.beq (g_ph g) 0) (z_V st) ((z_V st).map (fun q => (q.1, z_mp PHI (g_ph g) q.2))),
    cond (g_pur g) (z_F st) ((z_F st).filter (fun q => z_fnl TY cl st q || (z_isx st q.1 && (match g_raw g, As[0]? with
      | some _, some a => !(Nat.beq q.1 a)
      | _, _ => true)))), cond (g_pur g) (z_E st) [], z_R st, (match g_raw g, As[0]? with
      | some _, some a => (z_X st).filter (fun p => !(Nat.beq p.1 a))
      | _, _ => z_X st), ((z_C st).1 + (g_mk g).1, (z_C st).2 + (g_mk g).2), cond (Nat.beq (g_ph g) 0) (z_ph st) (cond (Nat.beq (z_ph st) 0) (g_ph g) (g_ph g * 1000 + z_ph st)))
/-- what an end says of the arguments: nothing comes where it can't be -/
def z_rfA (As : List Nat) : List (Nat × zV) → zS → Option (List zS)
  | [], st => some [st]
  | q :: r, st => match As[q.1]? with
    | some a => (match z_get (z_V st) a, q.2 with
      | some (.inl x), .inl y => cond (z_ile (z_max x.1 y.1) (z_min x.2 y.2)) (z_rfA As r (z_mor st (z_S st) [(a, .inl (z_max x.1 y.1, z_min x.2 y.2))] [])) (some [])
      | _, c => z_rfA As r (z_mor st (z_S st) [(a, c)] []))
    | none => none
def z_rel2 (w g : Nat) (h : zV × Option Int × Option Int) : List (Nat × Nat × Int) :=
  (match h.2.1 with
    | some k => [(w, g, k)]
    | none => []) ++ (match h.2.2 with
    | some k => [(g, w, -k)]
    | none => [])
/-- what is known of a place's new value: by itself, and by the old one -/
def z_rfV (st : zS) (gi : Nat) (h : zV × Option Int × Option Int) : zV := match h.1, z_get (z_V st) gi with
  | .inl r, some (.inl a) => .inl (match h.2.1 with
    | some k => z_max r.1 (a.1 + k)
    | none => r.1, match h.2.2 with
    | some k => z_min r.2 (a.2 + k)
    | none => r.2)
  | c, _ => c
def z_emp (c : zV) : Bool := match c with
  | .inl r => !(z_ile r.1 r.2)
  | _ => false
/-- what an end says of the places -/
def z_rfL (TY : List zTy) (As : List Nat) : List ((zLoc × zV) × Nat × (zV × Option Int × Option Int)) → zS → Option (List zS)
  | [], st => some [st]
  | q :: r, st => cond (z_emp (z_rfV st q.2.1 q.2.2)) (some []) (match As[q.1.1.1]? with
    | some a => (match q.1.1.2.2.2 with
      | none => z_rfL TY As r (z_L st, z_S st, z_n st + 1, (z_n st, z_rfV st q.2.1 q.2.2) :: z_V st, (a, q.1.1.2.1, q.1.1.2.2.1, z_n st) :: z_F st, z_E st, z_rel2 (z_n st) q.2.1 q.2.2 ++ z_R st, z_X st, z_C st, z_ph st)
      | some c => (match z_ffind st a q.1.1.2.1 q.1.1.2.2.1 with
        | some w => cond (Nat.ble c 1000000) (z_rfL TY As r (z_L st, z_S st, z_n st + 2, (z_n st + 1, z_rfV st q.2.1 q.2.2) :: (z_n st, .inl ((c : Int), (c : Int))) :: z_V st, z_F st, (w, z_n st, z_n st + 1) :: z_E st, z_rel2 (z_n st + 1) q.2.1 q.2.2 ++ z_R st, z_X st, z_C st, z_ph st)) none
        | none => (match z_get (z_V st) a with
        | some (.inr (.inl t)) => (match TY[t]? with
          | some (.inl o) => (match o.2[q.1.1.2.2.1]? with
            | some cf => cond (Nat.beq o.1 q.1.1.2.1 && Nat.ble c 1000000) (z_rfL TY As r (z_L st, z_S st, z_n st + 3, (z_n st + 2, z_rfV st q.2.1 q.2.2) :: (z_n st + 1, .inl ((c : Int), (c : Int))) :: (z_n st, cf) :: z_V st, (a, q.1.1.2.1, q.1.1.2.2.1, z_n st) :: z_F st, (z_n st, z_n st + 1, z_n st + 2) :: z_E st, z_rel2 (z_n st + 2) q.2.1 q.2.2 ++ z_R st, z_X st, z_C st, z_ph st)) none
            | none => none)
          | _ => none)
        | _ => none)))
    | none => none)
def z_cas (TY : List zTy) (cl : List vw_C) (PHI : List (List Nat)) (g : zSig) (As gs : List Nat) (st : zS) (P : zP) : Option (List zS) := match z_rfA As P.1 (z_bas TY cl PHI g As st) with
  | some [st1] => (match z_rfL TY As ((g_loc g).zip (gs.zip P.2.2.1)) st1 with
    | some [st2] => (match z_rfL TY As (P.2.2.2.map (fun q => (q, (As[q.1.1]?).getD 0, q.2, none, none))) st2 with
      | some [st3] => (match P.2.1 with
        | none => some [st3]
        | some c => some [z_psh st3 (z_S st3) c []])
      | some _ => some []
      | none => none)
    | some _ => some []
    | none => none)
  | some _ => some []
  | none => none
def z_cal (TY : List zTy) (PHI : List (List Nat)) (cl : List vw_C) (FT : Nat → Nat → FieldType) (R : Room) (pu : Bool) (maxL : Nat) (g : zSig) (st : zS) : Option (List zS) := match z_popn (g_prm g).length (z_S st) with
  | some (As, rest) => (match z_gls TY cl As (g_loc g) (z_stS st rest) with
    | some (st1, gs) => (match z_csum st1 rest with
      | some n => cond (Nat.ble n 8 && z_pck FT cl g As gs st1 && Nat.ble ((z_C st1).1 + (g_mk g).1) R.cells && Nat.ble ((z_C st1).2 + (g_mk g).2) R.slots && Nat.ble ((g_rm g).1 + 1) R.frames && Nat.ble (8 + (maxL + 11) + (g_rm g).2) R.locals && (Nat.beq (g_ph g) 0 || (Nat.beq (z_ph st1) 0 || (Nat.blt (z_ph st1) 1000 && Nat.blt (g_ph g) 1000))) && (g_pur g || !pu))
          ((g_pst g).foldr (fun P acc => match z_cas TY cl PHI g As gs st1 P, acc with
            | some a, some b => some (a ++ b)
            | _, _ => none) (some [])) none
      | none => none)
    | none => none)
  | none => none
section ZCALLS
variable {p : Program} {l : Launch} {e : Env} {R : Room} {s : State} {m : MethodId} {args : Array Value} {below : List Frame} {meth : Method} {c : Code} {Q : State → Prop} {cc : ByteArray} {pc : Nat}
variable {OB : Nat → Nat} {D : va_G} {DA : Nat → ClassId} {cl : List vw_C} {FT : Nat → Nat → FieldType} {TY : List zTy} {PHI : List (List Nat)} {sz : Nat} {raw : Option Nat} {pu : Bool} {T0 : zTp} {H0 : Heap} {env0 : List Value} {nL : Nat} {st st' : zS} {T : zTp} {H : Heap} {locs : List Loc} {env : List Value} {ls : Array Slot} {stk : List Value} {g : zSig} {KX : State → Heap → Prop} {rest : List Value} {cells slots mc ms : Nat} {good : Nat → zS → Prop}
theorem z_after {vals : List Value} {st0 : List Value} (hr : va_Run p l e R s m args below meth c H locs cells slots mc ms (F0 m pc ls st0) rest (z_Post OB D DA cl TY PHI sz g T vals.toArray) (fun q => sz ≤ q)) (hS : va_S (fun q => sz ≤ q) H0 H locs)
    (kk : ∀ (v : Option Value) (s1 t : State) (H1 : Heap) (locs1 : List Loc), s1.heap = H → t.heap = H1 → z_Post OB D DA cl TY PHI sz g T vals.toArray s1 (.returned v) t → va_S (fun q => sz ≤ q) H0 H1 locs1 → W p l e R s m args below meth c H1 locs1 (cells + mc) (slots + ms) Q (F0 m (pc + 3) ls (v.toList ++ rest))) : W p l e R s m args below meth c H locs cells slots Q (F0 m pc ls st0) := by
  intro T1 hT X
  obtain ⟨v, st₀, t, T', L, h0, X', hL, e1, e2, hq, st⟩ := hr T1 hT X
  have hq2 := hq
  obtain ⟨vals2, v2, T2, q1, q2, q3, q4, q5, q6, q7, q8, q9⟩ := hq
  obtain ⟨t2, a1, b1⟩ := kk v st₀ t T'.heap (locs ++ L) h0 e1.symm hq2 ⟨Nat.le_trans hS.1 (by rw [e1, ← h0]; exact q7), fun q h1 h2 => by
      rw [e1, q8 q (by rw [h0]; exact Nat.lt_of_lt_of_le h1 hS.1) h2, h0]; exact hS.2.1 q h1 h2, fun q hq => by
      rcases List.mem_append.mp hq with h | h
      · exact hS.2.2 q h
      · exact hL q h⟩ T' rfl X'
  exact ⟨t2, st t2 a1, b1⟩
theorem z_mp0 {k : zV} : z_mp PHI 0 k = k := by
  match k with
  | .inl r => rfl
  | .inr (.inl t) => rfl
  | .inr (.inr k) => rfl
theorem z_popn_ok : ∀ (n : Nat) {S As rest : List Nat} {stk : List Value}, z_popn n S = some (As, rest) → z_stk env S stk → ∃ (va vr : List Value), stk = va.reverse ++ vr ∧ va.length = n ∧ As.length = n ∧ z_stk env rest vr ∧ ∀ (j : Nat) (a : Nat), As[j]? = some a → ∃ v, va[j]? = some v ∧ env[a]? = some v := by
  intro n S As rest stk h hs
  obtain ⟨h1, h2⟩ := z_cond h
  cases h2
  have h1 := Nat.le_of_ble_eq_true h1
  have key : ∀ (n : Nat) (S : List Nat) (stk : List Value), n ≤ S.length → z_stk env S stk → ∃ (a b : List Value), stk = a ++ b ∧ a.length = n ∧ z_stk env (S.drop n) b ∧ ∀ (j d : Nat), (S.take n)[j]? = some d → ∃ v, a[j]? = some v ∧ env[d]? = some v := by
    intro n
    induction n with
    | zero => intro S stk _ h; exact ⟨[], stk, rfl, rfl, h, fun j d hj => by simp at hj⟩
    | succ n ih =>
      intro S stk hn h
      cases S with
      | nil => simp at hn
      | cons x S =>
        obtain ⟨v, k, rfl, e1, hk⟩ := h
        obtain ⟨a, b, rfl, g2, g3, g4⟩ := ih S k (by simpa using hn) hk
        refine ⟨v :: a, b, rfl, by simp [g2], g3, fun j d hj => ?_⟩
        cases j with
        | zero =>
          have : x = d := by simpa using hj
          subst this
          exact ⟨v, rfl, e1⟩
        | succ j =>
          obtain ⟨w, e2, e3⟩ := g4 j d (by simpa using hj)
          exact ⟨w, by simpa using e2, e3⟩
  obtain ⟨a, b, g1, g2, g3, g4⟩ := key n S stk h1 hs
  refine ⟨a.reverse, b, by rw [List.reverse_reverse]; exact g1, by simp [g2], by simp [Nat.min_eq_left h1], g3, fun j d hj => ?_⟩
  have hlt : j < n := by
    have := (List.getElem?_eq_some_iff.mp hj).1
    simp at this; omega
  have hlen : (S.take n).length = n := by simp [Nat.min_eq_left h1]
  rw [List.getElem?_reverse (by omega)] at hj
  obtain ⟨v, e1, e2⟩ := g4 _ d hj
  refine ⟨v, ?_, e2⟩
  rw [List.getElem?_reverse (by omega)]
  rw [hlen] at e1
  rw [g2]
  exact e1
theorem z_csum_ok : ∀ {S : List Nat} {n : Nat} {k : List Value}, z_csum st S = some n → z_sat OB D DA cl TY PHI sz raw pu T0 H0 env0 nL st T H locs env ls stk → z_stk env S k → (k.map fun v => v.category).sum = n
  | [], n, k, h, _, hk => by
    have hk : k = [] := hk
    subst hk
    cases h
    rfl
  | d :: S, n, k, h, hs, hk => by
    obtain ⟨v, k2, rfl, e1, hk2⟩ := hk
    unfold z_csum at h
    cases h1 : z_csum st S with
    | none => rw [h1] at h; cases h
    | some n1 =>
      rw [h1] at h
      have ih := z_csum_ok h1 hs hk2
      have h : cond (z_isi st d || z_isr st d) (some (n1 + 1)) (match z_get (z_V st) d with
        | some (.inr (.inr 0)) => some (n1 + 2)
        | _ => none) = some n := h
      cases hc : (z_isi st d || z_isr st d) with
      | true =>
        rw [hc] at h
        cases h
        have := z_cat_ok hc hs e1
        simp [this, ih, Nat.add_comm]
      | false =>
        rw [hc] at h
        have h : (match z_get (z_V st) d with
          | some (.inr (.inr 0)) => some (n1 + 2)
          | _ => none) = some n := h
        split at h
        · rename_i hv
          cases h
          obtain ⟨w, e2, x, rfl⟩ := z_get_ok hs.2.2.2.2.1 hv
          rw [e1] at e2
          cases e2
          have : (Value.long x).category = 2 := rfl
          simp [this, ih, Nat.add_comm]
        · cases h
end ZCALLS
end
section
/-! System.arraycopy of ints, from place 0 to place 0. -/
theorem z_nfw : nativeFrameWords "java/lang/System" "arraycopy" 5 + 11 ≤ 60 := by decide +kernel
/-- all entries are ints -/
def z_alli (q : Nat × (Nat × Nat) × List ((Nat × Nat) × zV)) : Bool := Nat.beq q.1 0 && q.2.2.any (fun g => Nat.ble g.1.1 0 && Nat.ble q.2.1.2 (g.1.2 + 1) && (match g.2 with
  | .inl _ => true
  | _ => false))
def z_acp (TY : List zTy) (RO : List Nat) (R : Room) (st : zS) : Option zS := match z_S st with
  | n :: dp :: d :: sp :: a :: S => (match z_csum st S, z_get (z_V st) n, z_get (z_V st) dp, z_get (z_V st) sp, z_get (z_V st) d, z_get (z_V st) a with
    | some k, some (.inl rn), some (.inl rd), some (.inl rs), some (.inr (.inl td)), some (.inr (.inl ta)) => (match TY[td]?, TY[ta]? with
      | some (.inr qd), some (.inr qa) => cond (z_ile 0 rd.1 && z_ile rd.2 0 && z_ile 0 rs.1 && z_ile rs.2 0 && z_ile 0 rn.1 && z_ile rn.2 (qd.2.1.1 : Int) && z_ile rn.2 (qa.2.1.1 : Int) && z_alli qd && z_alli qa && !(RO.any (fun x => Nat.beq x td)) &&
          qd.2.2.all (fun g => qa.2.2.any (fun f => Nat.ble f.1.1 g.1.1 && Nat.ble g.1.2 f.1.2 && z_le f.2 g.2)) && Nat.ble 1 R.frames && Nat.ble (k + 60) R.locals)
          (some (z_wr st S ((z_F st).filter (fun f => z_apt st f.1 d)) ((z_E st).filter (fun f => z_apt st f.1 d)))) none
      | _, _ => none)
    | _, _, _, _, _, _ => none)
  | _ => none
theorem z_arrC {c : ClassId} {n : Nat} {f g : Nat → Value} (h : ∀ j, j < n → f j = g j) : arrV c n f = arrV c n g := by
  have : (Array.ofFn (n := n) fun j => f j.val) = Array.ofFn (n := n) fun j => g j.val := by
    congr 1
    funext j
    exact h j.val j.isLt
  unfold arrV
  rw [this]
def z_int (v : Value) : Int32 := match v with
  | .int x => x
  | _ => 0
theorem z_alli_ok {OB : Nat → Nat} {T : zTp} {q : Nat × (Nat × Nat) × List ((Nat × Nat) × zV)} (h : z_alli q = true) {n : Nat} {f : Nat → Value} (hn : n ≤ q.2.1.2) (hf : ∀ g ∈ q.2.2, ∀ j, j < n → g.1.1 ≤ j → j ≤ g.1.2 → z_v OB T g.2 (f j)) : q.1 = 0 ∧ ∀ j, j < n → f j = .int (z_int (f j)) := by
  unfold z_alli at h
  rw [Bool.and_eq_true] at h
  refine ⟨z_beq h.1, fun j hj => ?_⟩
  obtain ⟨g, hg, h2⟩ := List.any_eq_true.mp h.2
  simp only [Bool.and_eq_true] at h2
  obtain ⟨⟨h3, h4⟩, h5⟩ := h2
  have h3 := Nat.le_of_ble_eq_true h3
  have h4 := Nat.le_of_ble_eq_true h4
  have hv := hf g hg j hj (by omega) (by omega)
  obtain ⟨gr, gv⟩ := g
  cases gv with
  | inl r => obtain ⟨x, e, _⟩ := hv; rw [e]; rfl
  | inr u => cases h5
section ZCOPY
variable {p : Program} {l : Launch} {e : Env} {R : Room} {s : State} {m : MethodId} {args : Array Value} {below : List Frame} {meth : Method} {c : Code} {Q : State → Prop} {cc : ByteArray} {pc : Nat}
variable {OB : Nat → Nat} {D : va_G} {DA : Nat → ClassId} {cl : List vw_C} {TY : List zTy} {PHI : List (List Nat)} {sz : Nat} {raw : Option Nat} {pu : Bool} {T0 : zTp} {H0 : Heap} {env0 : List Value} {nL : Nat} {st st' : zS} {good : Nat → zS → Prop}
variable {Ts : List Cond} {own : String} {tys : List (ClassId × FieldType)} {RO : List Nat}
variable {T : zTp} {H : Heap} {locs : List Loc} {env : List Value} {ls : Array Slot} {stk : List Value} {cells slots : Nat} {rest : List Value}
/-- the row: the other cells stay -/
theorem z_cprow (hx : p.tables.exec = Jvm.exec) (hb : c.code = cc) (hml : c.maxLocals = ls.size) (hD : z_Dy s m args Ts own D cl DA (z_tys DA)) {i : Nat} (w1 : Cond.methodLink own i arraycopyName ∈ Ts) (w2 : Cond.native arraycopyName ∈ Ts) (w3 : Cond.static arraycopyName ∈ Ts) (w4 : Cond.initialized "java/lang/System" ∈ Ts)
    {a0 a n0 n1 : Nat} {f g : Nat → Int32} (hc0 : H[a0]? = some (arrV (DA 0) n0 (fun j => .int (f j)))) (hc1 : H[a]? = some (arrV (DA 0) n1 (fun j => .int (g j)))) {sp dp n : Int32} (h1 : sp.toInt = 0) (h2 : dp.toInt = 0) (h3 : 0 ≤ n.toInt) (h4 : n.toInt.toNat ≤ n0) (h5 : n.toInt.toNat ≤ n1)
    (hframes : 1 ≤ R.frames) (hlocals : (rest.map fun v => v.category).sum + 60 ≤ R.locals) (hd : decode cc pc = .ok (.invokestatic i, 3))
    (kk : ∀ (H1 : Heap) (L : List Loc), (∀ q ∈ L, q.base = a) → H1[a]? = some (arrV (DA 0) n1 (fun j => .int (va_cpy f g 0 0 n.toInt.toNat j))) → H1.size = H.size → (∀ b : Nat, b ≠ a → H1[b]? = H[b]?) → W p l e R s m args below meth c H1 (locs ++ L) cells slots Q (F0 m (pc + 3) ls rest)) : W p l e R s m args below meth c H locs cells slots Q (F0 m pc ls (.int n :: .int dp :: .ref a :: .int sp :: .ref a0 :: rest)) := by
  intro T1 hT X
  obtain ⟨hts, hown, hK, hty⟩ := hD
  have hA := hK.2 0 _ (hty 0 (by omega))
  obtain ⟨-, k0, hk0, cm0, hkk0⟩ := hA.1 n0 (fun j => .int (f j))
  obtain ⟨-, k1, hk1, cm1, hkk1⟩ := hA.1 n1 (fun j => .int (g j))
  have z0 : (0 : Int32).toInt = 0 := rfl
  have neg : ∀ z : Int32, 0 ≤ z.toInt → ¬ z < 0 := fun z hz h => by have := Int32.lt_iff_toInt_lt.mp h; omega
  obtain ⟨vm', X', step⟩ := X.arraycopy hx hown (hts _ w1) (hts _ w2) (hts _ w3) (hts _ w4) (src := a0) (dst := a) (cs := arrV (DA 0) n0 (fun j => .int (f j))) (cd := arrV (DA 0) n1 (fun j => .int (g j))) (srcPos := sp) (destPos := dp) (n := n) (by rw [hT]; exact hc0) (by rw [hT]; exact hc1)
    (fun _ h => by cases h) (fun _ h => by cases h) (fun h => by cases h) (fun h => by cases h) hk0 hk1 hkk0 hkk1 rfl (neg _ (by omega)) (neg _ (by omega)) (neg _ h3)
    (by rw [arrV_size]; omega) (by rw [arrV_size]; omega)
    (fun vm₁ _ j hj => by
      have hj2 : j < n.toInt.toNat := hj
      have e : (arrV (DA 0) n0 (fun j => .int (f j))).slots.getD (sp.toNatClampNeg + j) .null = .int (f (sp.toNatClampNeg + j)) := by
        rw [Array.getD_eq_getD_getElem?, arrV_read _ _ (by rw [z_clamp]; omega)]
        rfl
      rw [e]
      exact ⟨rfl, trivial⟩)
    (g := F0 m pc ls (.int n :: .int dp :: .ref a :: .int sp :: .ref a0 :: rest)) rfl (by rw [hml]) (rest := rest) rfl (by rw [hb]; exact hd) hframes (by show 2 * 0 + _ + _ ≤ _; have := z_nfw; omega)
  have e1 : copied (arrV (DA 0) n0 (fun j => .int (f j))) (arrV (DA 0) n1 (fun j => .int (g j))) sp dp n = arrV (DA 0) n1 (fun j => .int (va_cpy f g 0 0 n.toInt.toNat j)) := by
    have := va_copied (n1 := n1) (sp := sp.toNatClampNeg) (dp := dp.toNatClampNeg) (n := n.toNatClampNeg) (fun z => Value.int z) (DA 0) (DA 0) f g (n0 := n0) (by rw [z_clamp, z_clamp]; omega)
    have es : sp.toNatClampNeg = 0 := by rw [z_clamp, h1]; rfl
    have ed : dp.toNatClampNeg = 0 := by rw [z_clamp, h2]; rfl
    rw [es, ed] at this
    show (arrV (DA 0) n1 (fun j => .int (g j))).storeRun dp.toNatClampNeg ((arrV (DA 0) n0 (fun j => .int (f j))).stretch sp.toNatClampNeg n.toNatClampNeg) = _
    rw [es, ed]
    exact this
  rw [e1] at X' step
  have hl : a < H.size := (Array.getElem?_eq_some_iff.mp hc1).1
  obtain ⟨t, q1, q2⟩ := kk (H.setIfInBounds a (arrV (DA 0) n1 (fun j => .int (va_cpy f g 0 0 n.toInt.toNat j)))) _ (fun q hq => by obtain ⟨z, -, hz⟩ := List.mem_map.mp hq; rw [← hz]) (by simp [Array.getElem?_setIfInBounds, hl]) (by simp) (fun b hb2 => by simp [Array.getElem?_setIfInBounds, Ne.symm hb2]) _ (by rw [← hT]; rfl) X'
  exact ⟨t, step t q1, q2⟩
theorem z_S_app {A : Nat → Prop} {H1 : Heap} {L : List Loc} {a : Nat} (h : va_S A H0 H locs) (hz : H1.size = H.size) (oq : ∀ b : Nat, b ≠ a → H1[b]? = H[b]?) (ha : A a) (hL : ∀ q ∈ L, q.base = a) : va_S A H0 H1 (locs ++ L) := by
  have h2 := h.put (k := 0) hz oq ha
  refine ⟨h2.1, h2.2.1, fun q hq => ?_⟩
  rcases List.mem_append.mp hq with hq | hq
  · exact h.2.2 q hq
  · rw [hL q hq]; exact ha
theorem z_acp_ok (hpu : pu = false) (h : z_acp TY RO R st = some st') (hs : z_sat OB D DA cl TY PHI sz raw pu T0 H0 env0 nL st T H locs env ls stk) :
    ∃ (a0 a n0 n1 : Nat) (f g : Nat → Int32) (sp dp n : Int32) (k : List Value), stk = .int n :: .int dp :: .ref a :: .int sp :: .ref a0 :: k ∧ H[a0]? = some (arrV (DA 0) n0 (fun j => .int (f j))) ∧ H[a]? = some (arrV (DA 0) n1 (fun j => .int (g j))) ∧ sp.toInt = 0 ∧ dp.toInt = 0 ∧ 0 ≤ n.toInt ∧ n.toInt.toNat ≤ n0 ∧ n.toInt.toNat ≤ n1 ∧
      1 ≤ R.frames ∧ (k.map fun v => v.category).sum + 60 ≤ R.locals ∧ z_C st' = z_C st ∧
      ∀ (H1 : Heap) (L : List Loc), (∀ q ∈ L, q.base = a) → H1[a]? = some (arrV (DA 0) n1 (fun j => .int (va_cpy f g 0 0 n.toInt.toNat j))) → H1.size = H.size → (∀ b : Nat, b ≠ a → H1[b]? = H[b]?) → z_sat OB D DA cl TY PHI sz raw pu T0 H0 env0 nL st' T H1 (locs ++ L) env ls k := by
  unfold z_acp at h
  split at h
  · rename_i n dp d sp a S hS
    split at h
    · rename_i k rn rd rs td ta hk0 hn hdp hsp hd ha
      split at h
      · rename_i qd qa hqd hqa
        obtain ⟨hc, rfl⟩ := z_cond h
        simp only [Bool.and_eq_true] at hc
        obtain ⟨⟨⟨⟨⟨⟨⟨⟨⟨⟨⟨⟨c1, c2⟩, c3⟩, c4⟩, c5⟩, c6⟩, c7⟩, c8⟩, c9⟩, c10⟩, c11⟩, c12⟩, c13⟩ := hc
        obtain ⟨ek, ⟨lo, hi⟩, sg⟩ := qd
        obtain ⟨ek0, ⟨lo0, hi0⟩, sg0⟩ := qa
        obtain ⟨vn, k1, rfl, e1, hk1⟩ := z_stk_cons hS hs.2.2.2.1
        obtain ⟨vdp, k2, rfl, e2, hk2⟩ := hk1
        obtain ⟨vd, k3, rfl, e3, hk3⟩ := hk2
        obtain ⟨vsp, k4, rfl, e4, hk4⟩ := hk3
        obtain ⟨va, k5, rfl, e5, hk5⟩ := hk4
        obtain ⟨_, i1, xn, rfl, hxn⟩ := z_get_ok hs.2.2.2.2.1 hn
        obtain ⟨_, i2, xdp, rfl, hxdp⟩ := z_get_ok hs.2.2.2.2.1 hdp
        obtain ⟨_, i3, xsp, rfl, hxsp⟩ := z_get_ok hs.2.2.2.2.1 hsp
        obtain ⟨A1, n1, f1, g1, g2, g3, g4, g5, g6, g7⟩ := z_arr hs hd hqd
        obtain ⟨A0, n0, f0, j1, j2, j3, j4, j5, j6, j7⟩ := z_arr hs ha hqa
        have q1 : vn = .int xn := Option.some.inj (e1.symm.trans i1)
        have q2 : vdp = .int xdp := Option.some.inj (e2.symm.trans i2)
        have q3 : vd = .ref A1 := Option.some.inj (e3.symm.trans g1)
        have q4 : vsp = .int xsp := Option.some.inj (e4.symm.trans i3)
        have q5 : va = .ref A0 := Option.some.inj (e5.symm.trans j1)
        subst q1; subst q2; subst q3; subst q4; subst q5
        obtain ⟨he, hall⟩ := z_alli_ok c8 g5 g7
        obtain ⟨he0, hall0⟩ := z_alli_ok c9 j5 j7
        have he : ek = 0 := he
        have he0 : ek0 = 0 := he0
        subst he; subst he0
        have t1 : H[A1]? = some (arrV (DA 0) n1 (fun j => .int (z_int (f1 j)))) := by rw [g3, z_arrC hall]
        have t0 : H[A0]? = some (arrV (DA 0) n0 (fun j => .int (z_int (f0 j)))) := by rw [j3, z_arrC hall0]
        have c1 := z_ile_ok c1
        have c2 := z_ile_ok c2
        have c3 := z_ile_ok c3
        have c4 := z_ile_ok c4
        have c5 := z_ile_ok c5
        have c6 : rn.2 ≤ (lo : Int) := z_ile_ok c6
        have c7 : rn.2 ≤ (lo0 : Int) := z_ile_ok c7
        obtain ⟨x1, x2⟩ := hxn
        obtain ⟨x3, x4⟩ := hxdp
        obtain ⟨x5, x6⟩ := hxsp
        have hcat := z_csum_ok hk0 hs hk5
        have hle := Nat.le_of_ble_eq_true c13
        refine ⟨A0, A1, n0, n1, _, _, xsp, xdp, xn, k5, rfl, t0, t1, by omega, by omega, by omega, by omega, by omega, Nat.le_of_ble_eq_true c12, by rw [hcat]; exact hle, rfl, fun H1 L hL h1 h2 h3 => ?_⟩
        have hcell : z_cell OB D DA cl T H1 A1 (.inr (0, (lo, hi), sg)) := by
          refine ⟨n1, _, h1, g4, g5, g6, fun g hg i hi1 hi2 hi3 => ?_⟩
          by_cases hin : i < xn.toInt.toNat
          · obtain ⟨fs, hfs, hfs2⟩ := List.any_eq_true.mp (List.all_eq_true.mp c11 g hg)
            simp only [Bool.and_eq_true] at hfs2
            have b1 := Nat.le_of_ble_eq_true hfs2.1.1
            have b2 := Nat.le_of_ble_eq_true hfs2.1.2
            have hv := j7 fs hfs i (by omega) (by omega) (by omega)
            rw [hall0 i (by omega)] at hv
            show z_v OB T g.2 (.int (va_cpy _ _ 0 0 _ i))
            rw [sb_cpy0 hin]
            exact z_le_ok hfs2.2 hv
          · have hv := g7 g hg i hi1 hi2 hi3
            rw [hall i hi1] at hv
            show z_v OB T g.2 (.int (va_cpy _ _ 0 0 _ i))
            rw [pk_cpy_out (Or.inr (by omega))]
            exact hv
        have hm := z_mem_set (k := 0) hpu hs.2.2.2.2.2.2.2.2.2 g2 hqd hcell h2 h3 (fun _ _ _ _ _ hh => by cases hh)
        have hx0 : ∀ (cC : ClassId) (N : Nat) (iS : Nat → Nat) (V : Nat → Value), t_OB A1 cC N iS H V → ∃ V', t_OB A1 cC N iS H1 V' := by
          intro cC N iS V hob
          obtain ⟨cell0, u1, u2, u3, u4⟩ := hob
          rw [t1] at u1
          cases u1
          refine ⟨fun k => .int (va_cpy (fun j => z_int (f0 j)) (fun j => z_int (f1 j)) 0 0 xn.toInt.toNat (iS k)), _, h1, u2, rfl, fun k hk => ?_⟩
          have hlt := (Array.getElem?_eq_some_iff.mp (u4 k hk)).1
          rw [arrV_size] at hlt
          exact arrV_read _ _ hlt
        refine ⟨hs.1, hs.2.1, hs.2.2.1, hk5, hs.2.2.2.2.1, fun f1 hf => ?_, fun f1 hf => ?_, hs.2.2.2.2.2.2.2.1, z_fx_upd h3 hx0 hs.2.2.2.2.2.2.2.2.1, hm.1, hm.2.1, hm.2.2.1, hm.2.2.2.1, z_S_app hs.2.2.2.2.2.2.2.2.2.2.2.2.2 h2 h3 (hs.2.2.2.2.2.2.2.2.2.2.1.1 A1 td g2) hL⟩
        · obtain ⟨hf1, hf2⟩ := List.mem_filter.mp hf
          obtain ⟨b, u, r2, y1, y2, y3, y4, y5⟩ := hs.2.2.2.2.2.1 f1 hf1
          exact ⟨b, u, r2, y1, y2, y3, y4, z_sl_kept y5 (h3 b (z_apt_ok hf2 hs y1 g1))⟩
        · obtain ⟨hf1, hf2⟩ := List.mem_filter.mp hf
          obtain ⟨b, x2, u, y1, y2, y3, y4, y5⟩ := hs.2.2.2.2.2.2.1 f1 hf1
          exact ⟨b, x2, u, y1, y2, y3, y4, z_sl_kept y5 (h3 b (z_apt_ok hf2 hs y1 g1))⟩
      · cases h
    · cases h
  · cases h
theorem z_r_acp (hpu : pu = false) (hg : z_Good p l e R s m args below meth c Q OB D DA cl TY PHI sz raw pu T0 H0 env0 nL good) (hx : p.tables.exec = Jvm.exec) (hb : c.code = cc) (hml : c.maxLocals = nL) (hD : z_Dy s m args Ts own D cl DA (z_tys DA)) {i : Nat} (w1 : Cond.methodLink own i arraycopyName ∈ Ts) (w2 : Cond.native arraycopyName ∈ Ts) (w3 : Cond.static arraycopyName ∈ Ts) (w4 : Cond.initialized "java/lang/System" ∈ Ts) (hd : decode cc pc = .ok (.invokestatic i, 3)) (h : z_acp TY RO R st = some st') (k : good (pc + 3) st') : good pc st := by
  refine (hg _ _).mpr fun T H locs env ls stk hs => ?_
  obtain ⟨a0, a, n0, n1, f, g, sp, dp, n, k2, rfl, h1, h2, h3, h4, h5, h6, h7, h8, h9, h10, h11⟩ := z_acp_ok hpu h hs
  have hlsz : ls.size = nL := by obtain ⟨lv, z1, _⟩ := hs.2.2.1; exact z1.1
  refine z_cprow hx hb (by rw [hml, hlsz]) hD w1 w2 w3 w4 h1 h2 h3 h4 h5 h6 h7 h8 h9 hd fun H1 L e1 e2 e3 e4 => ?_
  have kk := (hg _ _).mp k T H1 _ env ls _ (h11 H1 L e1 e2 e3 e4)
  rwa [h10] at kk
end ZCOPY
end
section
/-! Behind a call. -/
section ZCALLS2
variable {p : Program} {l : Launch} {e : Env} {R : Room} {s : State} {m : MethodId} {args : Array Value} {below : List Frame} {meth : Method} {c : Code} {Q : State → Prop} {cc : ByteArray} {pc : Nat}
variable {OB : Nat → Nat} {D : va_G} {DA : Nat → ClassId} {cl : List vw_C} {FT : Nat → Nat → FieldType} {TY : List zTy} {PHI : List (List Nat)} {sz : Nat} {raw : Option Nat} {pu : Bool} {T0 : zTp} {H0 : Heap} {env0 : List Value} {nL : Nat} {st st' : zS} {T : zTp} {H : Heap} {locs : List Loc} {env : List Value} {ls : Array Slot} {stk : List Value} {g : zSig} {KX : State → Heap → Prop} {rest : List Value} {cells slots mc ms : Nat} {good : Nat → zS → Prop}
theorem z_mpT {T' : zTp} (h : ∀ a t, T a = some t → T' a = some (z_phi PHI (g_ph g) t)) {k : zV} {v : Value} (hv : z_v OB T k v) : z_v OB T' (z_mp PHI (g_ph g) k) v := by
  match k, hv with
  | .inl r, hv => exact hv
  | .inr (.inl t), ⟨a, e, ha⟩ => exact ⟨a, e, h a t ha⟩
  | .inr (.inr 0), hv => exact hv
  | .inr (.inr (k + 1)), hv => exact hv
theorem z_fx_call {n0 : Nat} {H1 : Heap} {T' : zTp} {f : Nat × Nat → Bool} : ∀ {X : List (Nat × Nat)}, (∀ p ∈ X, f p = true → ∀ a : Nat, env[p.1]? = some (.ref a) → T a = none → a < H.size → T' a = none ∧ H1[a]? = H[a]?) → z_fx D cl T sz n0 raw H env X → z_fx D cl T' sz n0 raw H1 env (X.filter f)
  | [], _, h => h
  | x :: X, hk, ⟨⟨b, h1, h2, h3, ⟨r, V, h4, h4b⟩, h5⟩, hr⟩ => by
    have ih := z_fx_call (fun p hp => hk p (List.mem_cons_of_mem _ hp)) hr
    unfold List.filter
    cases hx : f x with
    | false => exact ih
    | true =>
      have hlt : b < H.size := by
        obtain ⟨cell, x1, -⟩ := h4b
        exact (Array.getElem?_eq_some_iff.mp x1).1
      obtain ⟨k1, k2⟩ := hk x List.mem_cons_self hx b h1 h2 hlt
      exact ⟨⟨b, h1, k1, h3, ⟨r, V, h4, h4b.kept k2⟩, fun p hp => h5 p (List.mem_filter.mp hp).1⟩, ih⟩
/-- what all ends share -/
theorem z_bas_ok {As : List Nat} {va vr : List Value} {v : Option Value} {s1 t : State} {H1 : Heap} {locs1 : List Loc} (hs : z_sat OB D DA cl TY PHI sz raw pu T0 H0 env0 nL st T H locs env ls vr) (hA : As.length = va.length) (hA2 : ∀ (j a : Nat), As[j]? = some a → ∃ x, va[j]? = some x ∧ env[a]? = some x)
    (hraw : ∀ ci, g_raw g = some ci → ∃ a, As[0]? = some a ∧ z_isx st a = true) (hph : g_ph g = 0 ∨ (z_ph st = 0 ∨ (Nat.blt (z_ph st) 1000 = true ∧ Nat.blt (g_ph g) 1000 = true))) (hpu : g_pur g = true ∨ pu = false) (h0 : s1.heap = H) (ht : t.heap = H1) (hS : va_S (fun q => sz ≤ q) H0 H1 locs1) (hP : z_Post OB D DA cl TY PHI sz g T va.toArray s1 (.returned v) t) :
    ∃ T' P, z_sat OB D DA cl TY PHI sz raw pu T0 H0 env0 nL (z_bas TY cl PHI g As st) T' H1 locs1 env ls vr ∧ P ∈ g_pst g ∧ z_Cs OB D cl g T' va H H1 v P ∧ (∀ a t, T a = some t → T' a = some (z_phi PHI (g_ph g) t)) ∧ (g_pur g = true → H1 = H ∧ T' = T) := by
  obtain ⟨va2, v2, T', q1, q2, q3, q4, q5, q6, q7, q8, ⟨q9, qf⟩, P, q10, q11⟩ := hP
  have hva : va = va2 := by have := congrArg Array.toList q1; simpa using this
  subst hva
  have hvv : v = v2 := Outcome.returned.inj q2
  subst hvv
  rw [h0] at q6 q7 q8 q9 qf q11
  rw [ht] at q3 q6 q7 q8 q9 qf q11
  refine ⟨T', P, ?_, q10, q11, q5, q9⟩
  obtain ⟨m1, ⟨m2, m3, mf⟩, m4, m5, m6⟩ := hs.2.2.2.2.2.2.2.2.2
  -- a raw cell that is not the one handed on
  have keep : ∀ a : Nat, a < H.size → T a = none → (∀ d, g_raw g ≠ none → As[0]? = some d → env[d]? ≠ some (.ref a)) → T' a = none ∧ H1[a]? = H[a]? := by
    intro a ha1 ha2 ha3
    refine q6 a ha1 ha2 (fun hi hv0 => ?_)
    cases hr : g_raw g with
    | none => rw [hr] at hi; cases hi
    | some ci =>
      obtain ⟨d, hd, _⟩ := hraw ci hr
      obtain ⟨x, hx1, hx2⟩ := hA2 0 d hd
      rw [hv0] at hx1
      cases hx1
      exact ha3 d (by rw [hr]; simp) hd hx2
  have hV : z_fv OB T' env (cond (Nat.beq (g_ph g) 0) (z_V st) ((z_V st).map (fun q => (q.1, z_mp PHI (g_ph g) q.2)))) := by
    cases hb : Nat.beq (g_ph g) 0 with
    | true =>
      intro f hf
      obtain ⟨w, e1, e2⟩ := hs.2.2.2.2.1 f hf
      have := z_mpT (g := g) q5 e2
      rw [z_beq hb, z_mp0] at this
      exact ⟨w, e1, this⟩
    | false =>
      intro f hf
      obtain ⟨q, hq, rfl⟩ := List.mem_map.mp hf
      obtain ⟨w, e1, e2⟩ := hs.2.2.2.2.1 q hq
      exact ⟨w, e1, z_mpT q5 e2⟩
  refine ⟨hs.1, hs.2.1, hs.2.2.1, hs.2.2.2.1, hV, ?_, ?_, hs.2.2.2.2.2.2.2.1, ?_, q3, ⟨q4, fun h => ?_, z_fin_tr mf qf⟩, fun a u hu => ?_, fun q hq1 hq2 hq3 => ?_, hS⟩
  · show z_ff D cl H1 env (cond (g_pur g) _ _)
    cases hp : g_pur g with
    | true => rw [(q9 hp).1]; exact hs.2.2.2.2.2.1
    | false =>
      intro f hf
      obtain ⟨hf1, hf2⟩ := List.mem_filter.mp hf
      obtain ⟨a, w, r, e1, e2, e3, e4, e5⟩ := hs.2.2.2.2.2.1 f hf1
      rw [Bool.or_eq_true] at hf2
      rcases hf2 with hf2 | hf2
      · unfold z_fnl at hf2
        split at hf2
        · rename_i t2 ht2
          split at hf2
          · rename_i o r2 ho2 hr2
            rw [Bool.and_eq_true] at hf2
            obtain ⟨v3, u1, a3, rfl, u2⟩ := z_get_ok hs.2.2.2.2.1 ht2
            rw [e1] at u1
            cases u1
            obtain ⟨oc, of⟩ := o
            have hoc : oc = f.2.1 := z_beq hf2.1
            subst hoc
            rw [e3] at hr2
            cases hr2
            obtain ⟨t', fl', k1, k2, k3⟩ := qf a t2 _ of u2 ho2
            exact ⟨a, w, r, e1, e2, e3, e4, k3 r _ w e3 e4 hf2.2 e5⟩
          · cases hf2
        · cases hf2
      rw [Bool.and_eq_true] at hf2
      obtain ⟨b, g1, g2, g3, y, hy, hyd, r2, V2, g4, g5⟩ := z_isx_ok hf2.1 hs
      rw [e1] at g1
      cases g1
      have hlt : a < H.size := by
        obtain ⟨cell, x1, -⟩ := e5
        exact (Array.getElem?_eq_some_iff.mp x1).1
      refine ⟨a, w, r, e1, e2, e3, e4, z_sl_kept e5 (keep a hlt g2 (fun d hd1 hd2 hd3 => ?_)).2⟩
      cases hr : g_raw g with
      | none => exact hd1 hr
      | some ci =>
        have h5 := hf2.2
        rw [hr, hd2] at h5
        have hne : f.1 ≠ d := fun h => by rw [h] at h5; simp at h5
        obtain ⟨d2, hd4, hd5⟩ := hraw ci hr
        rw [hd2] at hd4
        cases hd4
        obtain ⟨_, _, _, _, z, hz, hzd, _⟩ := z_isx_ok hd5 hs
        exact z_fx_apart hs.2.2.2.2.2.2.2.2.1 hy hz (by rw [hyd, hzd]; exact hne) (by rw [hyd]; exact e1) (by rw [hzd]; exact hd3)
  · show z_fe H1 env (cond (g_pur g) _ _)
    cases hp : g_pur g with
    | true => rw [(q9 hp).1]; exact hs.2.2.2.2.2.2.1
    | false => exact fun f hf => absurd hf List.not_mem_nil
  · have hX := hs.2.2.2.2.2.2.2.2.1
    have lt : ∀ q ∈ z_X st, ∀ a : Nat, env[q.1]? = some (.ref a) → T a = none → a < H.size → (∀ d, g_raw g ≠ none → As[0]? = some d → env[d]? ≠ some (.ref a)) → T' a = none ∧ H1[a]? = H[a]? := fun q _ a _ ha2 ha3 ha4 => keep a ha3 ha2 ha4
    show z_fx D cl T' sz H0.size raw H1 env (match g_raw g, As[0]? with
      | some _, some a => (z_X st).filter (fun p => !(Nat.beq p.1 a))
      | _, _ => z_X st)
    cases hr : g_raw g with
    | none =>
      have := z_fx_call (H1 := H1) (T' := T') (f := fun _ => true) (fun q hq _ a ha1 ha2 ha3 => lt q hq a ha1 ha2 ha3 (fun d hd => absurd hr hd)) hX
      rw [List.filter_eq_self.mpr (fun _ _ => rfl)] at this
      exact this
    | some ci =>
      obtain ⟨d, hd, hdx⟩ := hraw ci hr
      rw [hd]
      refine z_fx_call (f := fun p => !(Nat.beq p.1 d)) (fun q hq hf a ha1 ha2 ha3 => lt q hq a ha1 ha2 ha3 (fun d2 _ hd2 hd3 => ?_)) hX
      rw [hd] at hd2
      cases hd2
      have hne : q.1 ≠ d := fun h => by rw [h] at hf; simp at hf
      obtain ⟨_, _, _, _, z, hz, hzd, _⟩ := z_isx_ok hdx hs
      exact z_fx_apart hX hq hz (by rw [hzd]; exact hne) ha1 (by rw [hzd]; exact hd3)
  · rcases hpu with hp | hp
    · obtain ⟨y1, y2⟩ := q9 hp
      obtain ⟨z1, z2⟩ := m3 h
      exact ⟨y1.trans z1, y2.trans z2⟩
    · rw [hp] at h; cases h
  · have h1 := q5 a _ (m4 a u hu)
    show T' a = some (z_phi PHI (cond (Nat.beq (g_ph g) 0) (z_ph st) (cond (Nat.beq (z_ph st) 0) (g_ph g) (g_ph g * 1000 + z_ph st))) u)
    cases hb : Nat.beq (g_ph g) 0 with
    | true => rw [z_beq hb] at h1; exact h1
    | false =>
      cases hb2 : Nat.beq (z_ph st) 0 with
      | true => rw [z_beq hb2] at h1; exact h1
      | false =>
        rcases hph with h | h | h
        · rw [h] at hb; cases hb
        · rw [h] at hb2; cases hb2
        · show T' a = some (z_phi PHI (g_ph g * 1000 + z_ph st) u)
          rw [z_phi_cmp h.1 h.2 (fun h0 => by rw [h0] at hb; cases hb)]
          exact h1
  · obtain ⟨y1, y2⟩ := m5 q hq1 hq2 hq3
    obtain ⟨z1, z2⟩ := keep q (Nat.lt_of_lt_of_le hq1 m6.1) y1 (fun d hd1 hd2 hd3 => by
      cases hr : g_raw g with
      | none => exact hd1 hr
      | some ci =>
        obtain ⟨d2, hd4, hd5⟩ := hraw ci hr
        rw [hd2] at hd4
        cases hd4
        obtain ⟨b, g1, g2, g3, _⟩ := z_isx_ok hd5 hs
        rw [hd3] at g1
        cases g1
        rcases g3.2 with h | h
        · omega
        · exact hq3 h)
    exact ⟨z1, z2.trans y2⟩
theorem z_rfA_ok {As : List Nat} {va : List Value} (hA2 : ∀ (j a : Nat), As[j]? = some a → ∃ x, va[j]? = some x ∧ env[a]? = some x) : ∀ {A : List (Nat × zV)} {st : zS} {L : List zS}, z_rfA As A st = some L → (∀ q ∈ A, ∃ x, va[q.1]? = some x ∧ z_v OB T q.2 x) → z_sat OB D DA cl TY PHI sz raw pu T0 H0 env0 nL st T H locs env ls stk →
    ∃ st', L = [st'] ∧ z_sat OB D DA cl TY PHI sz raw pu T0 H0 env0 nL st' T H locs env ls stk ∧ z_C st' = z_C st ∧ z_S st' = z_S st
  | [], st, L, h, _, hs => by
    cases h
    exact ⟨st, rfl, hs, rfl, rfl⟩
  | q :: r, st, L, h, hq, hs => by
    obtain ⟨x, e1, e2⟩ := hq q List.mem_cons_self
    have hr := fun p hp => hq p (List.mem_cons_of_mem _ hp)
    unfold z_rfA at h
    split at h
    · rename_i a ha
      obtain ⟨x2, e3, e4⟩ := hA2 _ _ ha
      rw [e1] at e3
      cases e3
      split at h
      · rename_i r1 r2 hv hc
        rw [hc] at e2
        obtain ⟨y, rfl, hy⟩ := e2
        obtain ⟨w, e5, y2, rfl, hy2⟩ := z_get_ok hs.2.2.2.2.1 hv
        rw [e4] at e5
        cases e5
        have hin : z_in (z_max r1.1 r2.1, z_min r1.2 r2.2) y := ⟨z_max_le hy2.1 hy.1, z_min_ge hy2.2 hy.2⟩
        have hb : z_ile (z_max r1.1 r2.1) (z_min r1.2 r2.2) = true := decide_eq_true (Int.le_trans hin.1 hin.2)
        rw [hb] at h
        obtain ⟨st', g1, g2, g3, g4⟩ := z_rfA_ok hA2 h hr (z_sat_mor hs hs.2.2.2.1 (fun f hf => by rw [List.mem_singleton.mp hf]; exact ⟨_, e4, z_vi hin⟩) (fun f hf => absurd hf List.not_mem_nil))
        exact ⟨st', g1, g2, g3, g4⟩
      · obtain ⟨st', g1, g2, g3, g4⟩ := z_rfA_ok hA2 h hr (z_sat_mor hs hs.2.2.2.1 (fun f hf => by rw [List.mem_singleton.mp hf]; exact ⟨_, e4, e2⟩) (fun f hf => absurd hf List.not_mem_nil))
        exact ⟨st', g1, g2, g3, g4⟩
    · cases h
end ZCALLS2
end
section
/-! A call, whole. -/
/-- words that go on holding -/
def z_gw : Cond → Bool
  | .methodLinkNest .. => true
  | w => goodWord w
theorem z_pay {big ws : List Cond} {args : Array Value} {s : State} (hts : ∀ w ∈ big, w.before args s = true) (h : ∀ w ∈ ws, w ∈ big ∧ z_gw w = true) : ∀ w ∈ ws, ∀ (a' : Array Value) (U : State), s.WarmedH U.vm → w.before a' U = true := by
  intro w hw a' U hW
  obtain ⟨h1, h2⟩ := h w hw
  unfold z_gw at h2
  split at h2
  · exact va_Nw.use rfl (va_Nw.warmM hW (va_Nw.of (A := args) rfl (hts _ h1)))
  · exact word_at hW (good_of_word h2) (hts _ h1)
def z_KXp (sz : Nat) (KX : State → Heap → Prop) : Prop := (∀ (s U : State) (H : Heap), KX s H → s.WarmedH U.vm → KX U H) ∧ (∀ (s : State) (H H1 : Heap), KX s H → H.size ≤ H1.size → (∀ q : Nat, q < H.size → ¬ sz ≤ q → H1[q]? = H[q]?) → KX s H1) ∧ (∀ (u U : State) (H : Heap), U.vm = u.vm → KX u H → KX U H)
def z_OK (TBL : List Cond) (cl : List vw_C) (FT : Nat → Nat → FieldType) (TY : List zTy) (PHI : List (List Nat)) (KXf : (Nat → Nat) → Nat → State → Heap → Prop) (y : MethodName) (bytes : ByteArray) (maxL : Nat) (ret : Option FieldType) (g : zSig) : Prop :=
  ∀ (l : Launch) (OB : Nat → Nat) (D : va_G) (DA : Nat → ClassId) (sz : Nat) (T : zTp), Met l y (Cond.code y bytes maxL ret :: TBL) { frames := (g_rm g).1, cells := (g_mk g).1, slots := (g_mk g).2, locals := (g_rm g).2 } (z_Pre OB D DA cl FT TY sz (KXf OB sz) g T) (z_Post OB D DA cl TY PHI sz g T) (g_mk g).1 (g_mk g).2 (fun q => sz ≤ q)
def z_lk (Ts : List Cond) (own : String) (kind i : Nat) (y : MethodName) (bytes : ByteArray) (maxL : Nat) (ret : Option FieldType) (np : Nat) : Prop :=
  Cond.code y bytes maxL ret ∈ Ts ∧ Cond.initialized y.cls ∈ Ts ∧ (y.cls ≠ "java/lang/invoke/MethodHandle" ∧ y.cls ≠ "java/lang/invoke/VarHandle") ∧ (parseMethodDescriptor y.desc).map (fun d => d.parameters.length) = some np ∧
  (match kind with
    | 0 => Cond.methodLink own i y ∈ Ts ∧ Cond.instanceMethod y ∈ Ts ∧ Cond.selects y.cls y y ∈ Ts
    | 1 => Cond.methodLink own i y ∈ Ts ∧ Cond.static y ∈ Ts
    | 2 => Cond.methodLink own i y ∈ Ts ∧ Cond.instanceMethod y ∈ Ts ∧ y.name = "<init>" ∧ ret = none
    | 4 => (∃ host, Cond.methodLinkNest own i y host ∈ Ts) ∧ Cond.static y ∈ Ts
    | _ => (∃ host, Cond.methodLinkNest own i y host ∈ Ts) ∧ Cond.instanceMethod y ∈ Ts ∧ y.name = "<init>" ∧ ret = none)
section ZCALLS3
variable {p : Program} {l : Launch} {e : Env} {R : Room} {s : State} {m : MethodId} {args : Array Value} {below : List Frame} {meth : Method} {c : Code} {Q : State → Prop} {cc : ByteArray} {pc : Nat}
variable {OB : Nat → Nat} {D : va_G} {DA : Nat → ClassId} {cl : List vw_C} {FT : Nat → Nat → FieldType} {TY : List zTy} {PHI : List (List Nat)} {sz : Nat} {raw : Option Nat} {pu : Bool} {T0 : zTp} {H0 : Heap} {env0 : List Value} {nL : Nat} {st st' : zS} {T : zTp} {H : Heap} {locs : List Loc} {env : List Value} {ls : Array Slot} {stk : List Value} {g : zSig} {KXf : (Nat → Nat) → Nat → State → Heap → Prop} {rest : List Value} {cells slots : Nat} {good : Nat → zS → Prop}
variable {Ts TBL : List Cond} {own : String} {y : MethodName} {bytes : ByteArray} {maxL np i : Nat} {ret : Option FieldType}
theorem z_nx3 (A : List Value) (x y z : Value) : (A ++ [x, y, z])[A.length]? = some x ∧ (A ++ [x, y, z])[A.length + 1]? = some y ∧ (A ++ [x, y, z])[A.length + 2]? = some z := ⟨by simp, by simp, by simp⟩
theorem z_rel2_ok {w gi : Nat} {h : zV × Option Int × Option Int} {w0 v : Value} (h1 : env[w]? = some v) (h2 : env[gi]? = some w0) (hlo : ∀ k, h.2.1 = some k → ∃ x y : Int32, w0 = .int x ∧ v = .int y ∧ x.toInt + k ≤ y.toInt) (hhi : ∀ k, h.2.2 = some k → ∃ x y : Int32, w0 = .int x ∧ v = .int y ∧ y.toInt ≤ x.toInt + k) : z_fr env (z_rel2 w gi h) := by
  intro q hq
  rcases List.mem_append.mp hq with hq | hq
  · cases hk : h.2.1 with
    | none => rw [hk] at hq; exact absurd hq List.not_mem_nil
    | some k =>
      rw [hk] at hq
      rw [List.mem_singleton.mp hq]
      obtain ⟨x, y, rfl, rfl, hxy⟩ := hlo k hk
      exact ⟨x, y, h1, h2, hxy⟩
  · cases hk : h.2.2 with
    | none => rw [hk] at hq; exact absurd hq List.not_mem_nil
    | some k =>
      rw [hk] at hq
      rw [List.mem_singleton.mp hq]
      obtain ⟨x, y, rfl, rfl, hxy⟩ := hhi k hk
      exact ⟨y, x, h2, h1, by show y.toInt + -k ≤ _; omega⟩
theorem z_emp_ok {k : zV} {v : Value} (hv : z_v OB T k v) : z_emp k = false := by
  match k, hv with
  | .inl r, ⟨x, _, h1, h2⟩ =>
    have : z_ile r.1 r.2 = true := decide_eq_true (Int.le_trans h1 h2)
    show (!(z_ile r.1 r.2)) = false
    rw [this]; rfl
  | .inr _, _ => rfl
theorem z_rfV_ok {gi : Nat} {h : zV × Option Int × Option Int} {w0 w : Value} (hs : z_sat OB D DA cl TY PHI sz raw pu T0 H0 env0 nL st T H locs env ls stk) (h1 : env[gi]? = some w0) (hv : z_v OB T h.1 w) (hlo : ∀ k, h.2.1 = some k → ∃ x y : Int32, w0 = .int x ∧ w = .int y ∧ x.toInt + k ≤ y.toInt) (hhi : ∀ k, h.2.2 = some k → ∃ x y : Int32, w0 = .int x ∧ w = .int y ∧ y.toInt ≤ x.toInt + k) : z_v OB T (z_rfV st gi h) w := by
  unfold z_rfV
  split
  · rename_i r a hr ha
    rw [hr] at hv
    obtain ⟨y, rfl, y1, y2⟩ := hv
    obtain ⟨v, e1, x, rfl, x1, x2⟩ := z_get_ok hs.2.2.2.2.1 ha
    rw [h1] at e1
    cases e1
    refine ⟨y, rfl, ?_, ?_⟩
    · show (match h.2.1 with
        | some k => z_max r.1 (a.1 + k)
        | none => r.1) ≤ _
      cases hk : h.2.1 with
      | none => exact y1
      | some k =>
        obtain ⟨x', y', g1, g2, g3⟩ := hlo k hk
        cases g1; cases g2
        exact z_max_le y1 (by omega)
    · show _ ≤ (match h.2.2 with
        | some k => z_min r.2 (a.2 + k)
        | none => r.2)
      cases hk : h.2.2 with
      | none => exact y2
      | some k =>
        obtain ⟨x', y', g1, g2, g3⟩ := hhi k hk
        cases g1; cases g2
        exact z_min_ge y2 (by omega)
  · exact hv
theorem z_nx2 (A : List Value) (x y : Value) : (A ++ [x, y])[A.length + 1]? = some y := by simp
theorem z_cnd {α : Type} {b : Bool} {o : Option α} {r : α} (h : cond b o none = some r) : b = true ∧ o = some r := by
  cases b with
  | true => exact ⟨rfl, h⟩
  | false => cases h
theorem z_rfL_ok {As : List Nat} {va : List Value} (hA2 : ∀ (j a : Nat), As[j]? = some a → ∃ x, va[j]? = some x ∧ env[a]? = some x) : ∀ {L : List ((zLoc × zV) × Nat × (zV × Option Int × Option Int))} {st : zS} {L1 : List zS} {x : List Value}, z_rfL TY As L st = some L1 →
    (∀ q ∈ L, ∃ w0 w, env[q.2.1]? = some w0 ∧ z_lv D cl H (va[q.1.1.1]?) q.1.1 w ∧ z_v OB T q.2.2.1 w ∧ (∀ k, q.2.2.2.1 = some k → ∃ x y : Int32, w0 = .int x ∧ w = .int y ∧ x.toInt + k ≤ y.toInt) ∧ (∀ k, q.2.2.2.2 = some k → ∃ x y : Int32, w0 = .int x ∧ w = .int y ∧ y.toInt ≤ x.toInt + k)) →
    z_sat OB D DA cl TY PHI sz raw pu T0 H0 env0 nL st T H locs (env ++ x) ls stk → ∃ st' x', L1 = [st'] ∧ z_sat OB D DA cl TY PHI sz raw pu T0 H0 env0 nL st' T H locs (env ++ x') ls stk ∧ z_C st' = z_C st ∧ z_S st' = z_S st ∧ ∃ w, x' = x ++ w
  | [], st, L1, x, h, _, hs => by
    cases h
    exact ⟨st, x, rfl, hs, rfl, rfl, [], by rw [List.append_nil]⟩
  | q :: r, st, L1, x, h, hq, hs => by
    obtain ⟨w0, w, e1, e2, e3, e4, e5⟩ := hq q List.mem_cons_self
    have hr := fun p hp => hq p (List.mem_cons_of_mem _ hp)
    have e3 := z_rfV_ok hs (z_app e1) e3 e4 e5
    unfold z_rfL at h
    rw [z_emp_ok e3] at h
    have h : (match As[q.1.1.1]? with
      | some a => (match q.1.1.2.2.2 with
        | none => z_rfL TY As r (z_L st, z_S st, z_n st + 1, (z_n st, z_rfV st q.2.1 q.2.2) :: z_V st, (a, q.1.1.2.1, q.1.1.2.2.1, z_n st) :: z_F st, z_E st, z_rel2 (z_n st) q.2.1 q.2.2 ++ z_R st, z_X st, z_C st, z_ph st)
        | some c => (match z_ffind st a q.1.1.2.1 q.1.1.2.2.1 with
          | some w => cond (Nat.ble c 1000000) (z_rfL TY As r (z_L st, z_S st, z_n st + 2, (z_n st + 1, z_rfV st q.2.1 q.2.2) :: (z_n st, .inl ((c : Int), (c : Int))) :: z_V st, z_F st, (w, z_n st, z_n st + 1) :: z_E st, z_rel2 (z_n st + 1) q.2.1 q.2.2 ++ z_R st, z_X st, z_C st, z_ph st)) none
          | none => (match z_get (z_V st) a with
          | some (.inr (.inl t)) => (match TY[t]? with
            | some (.inl o) => (match o.2[q.1.1.2.2.1]? with
              | some cf => cond (Nat.beq o.1 q.1.1.2.1 && Nat.ble c 1000000) (z_rfL TY As r (z_L st, z_S st, z_n st + 3, (z_n st + 2, z_rfV st q.2.1 q.2.2) :: (z_n st + 1, .inl ((c : Int), (c : Int))) :: (z_n st, cf) :: z_V st, (a, q.1.1.2.1, q.1.1.2.2.1, z_n st) :: z_F st, (z_n st, z_n st + 1, z_n st + 2) :: z_E st, z_rel2 (z_n st + 2) q.2.1 q.2.2 ++ z_R st, z_X st, z_C st, z_ph st)) none
              | none => none)
            | _ => none)
          | _ => none)))
      | none => none) = some L1 := h
    split at h
    · rename_i a ha
      obtain ⟨xa, f1, f2⟩ := hA2 _ _ ha
      obtain ⟨ad, rc, g1, g2, g3, g4⟩ := e2
      rw [f1] at g1
      cases g1
      split at h
      · rename_i ho
        rw [ho] at g4
        have hn : (env ++ (x ++ [w]))[z_n st]? = some w := by rw [← hs.1, ← List.append_assoc]; simp
        have hp : z_sat OB D DA cl TY PHI sz raw pu T0 H0 env0 nL (z_L st, z_S st, z_n st + 1, (z_n st, z_rfV st q.2.1 q.2.2) :: z_V st, (a, q.1.1.2.1, q.1.1.2.2.1, z_n st) :: z_F st, z_E st, z_rel2 (z_n st) q.2.1 q.2.2 ++ z_R st, z_X st, z_C st, z_ph st) T H locs (env ++ (x ++ [w])) ls stk := by
          rw [← List.append_assoc] at hn ⊢
          refine ⟨by show (env ++ x ++ [w]).length = z_n st + 1; rw [List.length_append, hs.1]; rfl, z_pre_app (w1 := []) hs.2.1, z_ls_app hs.2.2.1, z_stk_app hs.2.2.2.1, fun f hf => ?_, fun f hf => ?_, z_fe_app hs.2.2.2.2.2.2.1, fun f hf => ?_, z_fx_app hs.2.2.2.2.2.2.2.2.1, hs.2.2.2.2.2.2.2.2.2⟩
          · rcases List.mem_cons.mp hf with rfl | hf
            · exact ⟨_, hn, e3⟩
            · exact z_fv_app hs.2.2.2.2.1 f hf
          · rcases List.mem_cons.mp hf with rfl | hf
            · exact ⟨ad, w, rc, z_app (z_app f2), hn, g2, g3, g4⟩
            · exact z_ff_app hs.2.2.2.2.2.1 f hf
          · rcases List.mem_append.mp hf with hf | hf
            · exact z_rel2_ok hn (z_app (z_app e1)) e4 e5 f hf
            · exact z_fr_app hs.2.2.2.2.2.2.2.1 f hf
        obtain ⟨st', x', k0, k1, k2, k3, w2, k4⟩ := z_rfL_ok hA2 h hr hp
        exact ⟨st', x', k0, k1, k2, k3, [w] ++ w2, by rw [k4, List.append_assoc]⟩
      · rename_i c0 ho
        rw [ho] at g4
        obtain ⟨b, b1, b2⟩ := g4
        cases hff : z_ffind st a q.1.1.2.1 q.1.1.2.2.1 with
        | some wf =>
          rw [hff] at h
          obtain ⟨hb, h⟩ := z_cnd h
          obtain ⟨a2, v2, y1, y2, y3⟩ := z_ffind_ok hff hs
          rw [z_app f2] at y1
          cases y1
          have := z_sl_fun y3 b1
          subst this
          have hcle := Nat.le_of_ble_eq_true hb
          have hi : (Int32.ofNat c0).toInt = (c0 : Int) := Int32.toInt_ofNat_of_lt (by omega)
          have l0 : (env ++ x).length = z_n st := hs.1
          have n0 : (env ++ x ++ [.int (Int32.ofNat c0), w])[z_n st]? = some (.int (Int32.ofNat c0)) := by rw [← l0]; simp
          have n1 : (env ++ x ++ [.int (Int32.ofNat c0), w])[z_n st + 1]? = some w := by rw [← l0]; exact z_nx2 _ _ _
          have hp : z_sat OB D DA cl TY PHI sz raw pu T0 H0 env0 nL (z_L st, z_S st, z_n st + 2, (z_n st + 1, z_rfV st q.2.1 q.2.2) :: (z_n st, .inl ((c0 : Int), (c0 : Int))) :: z_V st, z_F st, (wf, z_n st, z_n st + 1) :: z_E st, z_rel2 (z_n st + 1) q.2.1 q.2.2 ++ z_R st, z_X st, z_C st, z_ph st) T H locs (env ++ (x ++ [.int (Int32.ofNat c0), w])) ls stk := by
            rw [← List.append_assoc]
            refine ⟨by show (env ++ x ++ [.int (Int32.ofNat c0), w]).length = z_n st + 2; rw [List.length_append, hs.1]; rfl, ?_, z_ls_app hs.2.2.1, z_stk_app hs.2.2.2.1, fun f hf => ?_, z_ff_app hs.2.2.2.2.2.1, fun f hf => ?_, fun f hf => ?_, z_fx_app hs.2.2.2.2.2.2.2.2.1, hs.2.2.2.2.2.2.2.2.2⟩
            · obtain ⟨w3, hw3⟩ := hs.2.1
              exact ⟨w3 ++ [.int (Int32.ofNat c0), w], by rw [hw3, List.append_assoc]⟩
            · rcases List.mem_cons.mp hf with rfl | hf
              · exact ⟨_, n1, e3⟩
              · rcases List.mem_cons.mp hf with rfl | hf
                · exact ⟨_, n0, z_vi ⟨by rw [hi]; exact Int.le_refl _, by rw [hi]; exact Int.le_refl _⟩⟩
                · exact z_fv_app hs.2.2.2.2.1 f hf
            · rcases List.mem_cons.mp hf with rfl | hf
              · exact ⟨b, _, w, z_app y2, n0, by omega, n1, by rw [hi]; simpa using b2⟩
              · exact z_fe_app hs.2.2.2.2.2.2.1 f hf
            · rcases List.mem_append.mp hf with hf | hf
              · exact z_rel2_ok n1 (z_app (z_app e1)) e4 e5 f hf
              · exact z_fr_app hs.2.2.2.2.2.2.2.1 f hf
          obtain ⟨st', x', k0, k1, k2, k3, w2, k4⟩ := z_rfL_ok hA2 h hr hp
          exact ⟨st', x', k0, k1, k2, k3, [.int (Int32.ofNat c0), w] ++ w2, by rw [k4, List.append_assoc]⟩
        | none =>
        rw [hff] at h
        simp only at h
        split at h
        · rename_i t ht
          split at h
          · rename_i o hto
            split at h
            · rename_i cf hcf
              cases hb : (Nat.beq o.1 q.1.1.2.1 && Nat.ble c0 1000000) with
              | false => rw [hb] at h; cases h
              | true =>
                rw [hb] at h
                rw [Bool.and_eq_true] at hb
                obtain ⟨ci, fl⟩ := o
                have hci : ci = q.1.1.2.1 := z_beq hb.1
                obtain ⟨a2, r2, V, y1, y2, y3, y4, y5, y6⟩ := z_obj hs ht hto
                rw [z_app f2] at y1
                cases y1
                have hcle := Nat.le_of_ble_eq_true hb.2
                have hi : (Int32.ofNat c0).toInt = (c0 : Int) := Int32.toInt_ofNat_of_lt (by omega)
                have hVk : V q.1.1.2.2.1 = .ref b := by
                  obtain ⟨cell, z1, z2, z3, z4⟩ := y5
                  have hlt : q.1.1.2.2.1 < r2.2.2 := by rw [← y4]; exact (List.getElem?_eq_some_iff.mp hcf).1
                  have z5 : z_sl H ad (D.2 q.1.1.2.1 q.1.1.2.2.1) (V q.1.1.2.2.1) := ⟨cell, z1, z3, by rw [← hci]; exact z4 _ hlt⟩
                  exact z_sl_fun z5 b1
                have hcfv := y6 _ _ hcf
                rw [hVk] at hcfv
                have l0 : (env ++ x).length = z_n st := hs.1
                have n0 : (env ++ x ++ [.ref b, .int (Int32.ofNat c0), w])[z_n st]? = some (.ref b) := by rw [← l0]; exact (z_nx3 _ _ _ _).1
                have n1 : (env ++ x ++ [.ref b, .int (Int32.ofNat c0), w])[z_n st + 1]? = some (.int (Int32.ofNat c0)) := by rw [← l0]; exact (z_nx3 _ _ _ _).2.1
                have n2 : (env ++ x ++ [.ref b, .int (Int32.ofNat c0), w])[z_n st + 2]? = some w := by rw [← l0]; exact (z_nx3 _ _ _ _).2.2
                have hp : z_sat OB D DA cl TY PHI sz raw pu T0 H0 env0 nL (z_L st, z_S st, z_n st + 3, (z_n st + 2, z_rfV st q.2.1 q.2.2) :: (z_n st + 1, .inl ((c0 : Int), (c0 : Int))) :: (z_n st, cf) :: z_V st, (a, q.1.1.2.1, q.1.1.2.2.1, z_n st) :: z_F st, (z_n st, z_n st + 1, z_n st + 2) :: z_E st, z_rel2 (z_n st + 2) q.2.1 q.2.2 ++ z_R st, z_X st, z_C st, z_ph st) T H locs (env ++ (x ++ [.ref b, .int (Int32.ofNat c0), w])) ls stk := by
                  rw [← List.append_assoc]
                  refine ⟨by show (env ++ x ++ [.ref b, .int (Int32.ofNat c0), w]).length = z_n st + 3; rw [List.length_append, hs.1]; rfl, ?_, z_ls_app hs.2.2.1, z_stk_app hs.2.2.2.1, fun f hf => ?_, fun f hf => ?_, fun f hf => ?_, fun f hf => ?_, z_fx_app hs.2.2.2.2.2.2.2.2.1, hs.2.2.2.2.2.2.2.2.2⟩
                  · obtain ⟨w3, hw3⟩ := hs.2.1
                    exact ⟨w3 ++ [.ref b, .int (Int32.ofNat c0), w], by rw [hw3, List.append_assoc]⟩
                  · rcases List.mem_cons.mp hf with rfl | hf
                    · exact ⟨_, n2, e3⟩
                    · rcases List.mem_cons.mp hf with rfl | hf
                      · exact ⟨_, n1, z_vi ⟨by rw [hi]; exact Int.le_refl _, by rw [hi]; exact Int.le_refl _⟩⟩
                      · rcases List.mem_cons.mp hf with rfl | hf
                        · exact ⟨_, n0, hcfv⟩
                        · exact z_fv_app hs.2.2.2.2.1 f hf
                  · rcases List.mem_cons.mp hf with rfl | hf
                    · exact ⟨ad, .ref b, rc, z_app (z_app f2), n0, g2, g3, b1⟩
                    · exact z_ff_app hs.2.2.2.2.2.1 f hf
                  · rcases List.mem_cons.mp hf with rfl | hf
                    · exact ⟨b, _, w, n0, n1, by omega, n2, by rw [hi]; simpa using b2⟩
                    · exact z_fe_app hs.2.2.2.2.2.2.1 f hf
                  · rcases List.mem_append.mp hf with hf | hf
                    · exact z_rel2_ok n2 (z_app (z_app e1)) e4 e5 f hf
                    · exact z_fr_app hs.2.2.2.2.2.2.2.1 f hf
                obtain ⟨st', x', k0, k1, k2, k3, w2, k4⟩ := z_rfL_ok hA2 h hr hp
                exact ⟨st', x', k0, k1, k2, k3, [.ref b, .int (Int32.ofNat c0), w] ++ w2, by rw [k4, List.append_assoc]⟩
            · cases h
          · cases h
        · cases h
    · cases h
/-- the end that came is among the states behind the call -/
theorem z_cas_ok {As gs : List Nat} {va vr : List Value} {v : Option Value} {T' : zTp} {H1 : Heap} {locs1 : List Loc} {P : zP} {L : List zS} (hAl : As.length = va.length) (hA2 : ∀ (j a : Nat), As[j]? = some a → ∃ x, va[j]? = some x ∧ env[a]? = some x) (hgl : gs.length = (g_loc g).length) (hgs : ∀ (i : Nat) (q : zLoc × zV) (w : Nat), (g_loc g)[i]? = some q → gs[i]? = some w → ∃ v : Value, env[w]? = some v ∧ z_lv D cl H (va[q.1.1]?) q.1 v)
    (hs : z_sat OB D DA cl TY PHI sz raw pu T0 H0 env0 nL (z_bas TY cl PHI g As st) T' H1 locs1 env ls vr) (hC : z_Cs OB D cl g T' va H H1 v P) (h : z_cas TY cl PHI g As gs st P = some L) :
    ∃ st' env', st' ∈ L ∧ z_C st' = ((z_C st).1 + (g_mk g).1, (z_C st).2 + (g_mk g).2) ∧ z_sat OB D DA cl TY PHI sz raw pu T0 H0 env0 nL st' T' H1 locs1 env' ls (v.toList ++ vr) := by
  obtain ⟨hCA, hCR, hCN, hCL⟩ := hC
  unfold z_cas at h
  cases h1 : z_rfA As P.1 (z_bas TY cl PHI g As st) with
  | none => rw [h1] at h; cases h
  | some L1 =>
    obtain ⟨st1, rfl, g1, g2, g3⟩ := z_rfA_ok hA2 h1 hCA hs
    simp only [h1] at h
    have step2 : ∀ st2, z_rfL TY As ((g_loc g).zip (gs.zip P.2.2.1)) st1 = some st2 → ∃ st3 x', st2 = [st3] ∧ z_sat OB D DA cl TY PHI sz raw pu T0 H0 env0 nL st3 T' H1 locs1 (env ++ x') ls vr ∧ z_C st3 = z_C st1 ∧ z_S st3 = z_S st1 := by
      intro st2 h2
      have h2 : z_rfL TY As ((g_loc g).zip (gs.zip P.2.2.1)) st1 = some st2 := h2
      have g1' : z_sat OB D DA cl TY PHI sz raw pu T0 H0 env0 nL st1 T' H1 locs1 (env ++ []) ls vr := by rw [List.append_nil]; exact g1
      obtain ⟨st3, x', k0, k1, k2, k3, _⟩ := z_rfL_ok hA2 h2 (fun q hq => by
        obtain ⟨i, hi⟩ := List.getElem?_of_mem hq
        rw [List.getElem?_zip_eq_some, List.getElem?_zip_eq_some] at hi
        obtain ⟨hi1, hi2, hi3⟩ := hi
        obtain ⟨v0, m1, m2⟩ := hgs i _ _ hi1 hi2
        obtain ⟨w0, w, n1, n2, n3, n4, n5⟩ := hCL i _ _ hi1 hi3
        have := z_lv_fun m2 n1
        subst this
        exact ⟨v0, w, m1, n2, n3, n4, n5⟩) g1'
      exact ⟨st3, x', k0, k1, k2, k3⟩
    cases h3 : z_rfL TY As ((g_loc g).zip (gs.zip P.2.2.1)) st1 with
    | none => rw [h3] at h; cases h
    | some L2 =>
      obtain ⟨st2, x', rfl, k1, k2, k3⟩ := step2 L2 h3
      rw [h3] at h
      have h : (match z_rfL TY As (P.2.2.2.map (fun q => (q, (As[q.1.1]?).getD 0, q.2, none, none))) st2 with
        | some [st3] => (match P.2.1 with
          | none => some [st3]
          | some c => some [z_psh st3 (z_S st3) c []])
        | some _ => some []
        | none => none) = some L := h
      cases h4 : z_rfL TY As (P.2.2.2.map (fun q => (q, (As[q.1.1]?).getD 0, q.2, none, none))) st2 with
      | none => rw [h4] at h; cases h
      | some L3 =>
        obtain ⟨st3, x3, rfl, j1, j2, j3, -⟩ := z_rfL_ok hA2 h4 (fun q hq => by
          obtain ⟨q0, hq0, rfl⟩ := List.mem_map.mp hq
          obtain ⟨w, n1, n2⟩ := hCN q0 hq0
          have n1' := n1
          obtain ⟨a, r, m1, -⟩ := n1'
          have hlt : q0.1.1 < As.length := by rw [hAl]; exact (List.getElem?_eq_some_iff.mp m1).1
          have hA := List.getElem?_eq_getElem hlt
          obtain ⟨x0, y1, y2⟩ := hA2 _ _ hA
          refine ⟨x0, w, ?_, n1, n2, (fun k hk => by cases hk), (fun k hk => by cases hk)⟩
          show env[(As[q0.1.1]?).getD 0]? = some x0
          rw [hA]
          exact y2) k1
        rw [h4] at h
        have hC3 : z_C st3 = ((z_C st).1 + (g_mk g).1, (z_C st).2 + (g_mk g).2) := j2.trans (k2.trans g2)
        cases hr : P.2.1 with
        | none =>
          simp only [hr] at h
          cases h
          rw [hr] at hCR
          cases v with
          | none => exact ⟨st3, _, List.mem_singleton.mpr rfl, hC3, j1⟩
          | some x => exact hCR.elim
        | some c0 =>
          simp only [hr] at h
          cases h
          rw [hr] at hCR
          cases v with
          | none => exact hCR.elim
          | some x => exact ⟨_, _, List.mem_singleton.mpr rfl, hC3, z_sat_psh j1 j1.2.2.2.1 hCR (fun q hq => absurd hq List.not_mem_nil)⟩
end ZCALLS3
end
section
/-! The four kinds of calls. -/
def z_rcv (TY : List zTy) (st : zS) (cix : Nat) (a : Nat) : Bool := match z_get (z_V st) a with
  | some (.inr (.inl t)) => (match TY[t]? with
    | some (.inl o) => Nat.beq o.1 cix
    | _ => false)
  | _ => false
/-- kind 0 virtual, 1 static, 2 and 3 the making of an object -/
def z_inv (TY : List zTy) (PHI : List (List Nat)) (cl : List vw_C) (FT : Nat → Nat → FieldType) (R : Room) (pu : Bool) (kind cix maxL np : Nat) (g : zSig) (st : zS) : Option (List zS) :=
  cond (match kind with
    | 0 => Nat.beq (g_prm g).length (np + 1) && (g_raw g).isNone && (match (z_S st)[np]? with
      | some a => z_rcv TY st cix a
      | none => false)
    | 1 => Nat.beq (g_prm g).length np && (g_raw g).isNone
    | 4 => Nat.beq (g_prm g).length np && (g_raw g).isNone
    | _ => Nat.beq (g_prm g).length (np + 1) && (g_raw g).isSome) (z_cal TY PHI cl FT R pu maxL g st) none
def z_ins (kind i : Nat) : Instr := match kind with
  | 0 => .invokevirtual i
  | 1 => .invokestatic i
  | 4 => .invokestatic i
  | _ => .invokespecial i
section ZCALLS4
variable {p : Program} {l : Launch} {e : Env} {R : Room} {s : State} {m : MethodId} {args : Array Value} {below : List Frame} {meth : Method} {c : Code} {Q : State → Prop} {cc : ByteArray} {pc : Nat}
variable {OB : Nat → Nat} {D : va_G} {DA : Nat → ClassId} {cl : List vw_C} {FT : Nat → Nat → FieldType} {TY : List zTy} {PHI : List (List Nat)} {sz : Nat} {raw : Option Nat} {pu : Bool} {T0 : zTp} {H0 : Heap} {env0 : List Value} {nL : Nat} {st st' : zS} {T : zTp} {H : Heap} {locs : List Loc} {env : List Value} {ls : Array Slot} {stk : List Value} {g : zSig} {KXf : (Nat → Nat) → Nat → State → Heap → Prop} {rest : List Value} {cells slots : Nat} {good : Nat → zS → Prop}
variable {Ts TBL : List Cond} {own : String} {y : MethodName} {bytes : ByteArray} {maxL np i : Nat} {ret : Option FieldType}
theorem z_pre_ok {As gs : List Nat} {va : List Value} {KX : State → Heap → Prop} (hA : As.length = va.length) (hl : va.length = (g_prm g).length) (hA2 : ∀ (j a : Nat), As[j]? = some a → ∃ x, va[j]? = some x ∧ env[a]? = some x) (hgl : gs.length = (g_loc g).length) (hgs : ∀ (i : Nat) (q : zLoc × zV) (w : Nat), (g_loc g)[i]? = some q → gs[i]? = some w → ∃ v : Value, env[w]? = some v ∧ z_lv D cl H (va[q.1.1]?) q.1 v)
    (hs : z_sat OB D DA cl TY PHI sz raw pu T0 H0 env0 nL st T H locs env ls stk) (h : z_pck FT cl g As gs st = true) (hK : va_K D cl (z_tys DA) s) (hX : KX s H) (hXp : z_KXp sz KX) (hsz : sz ≤ H.size) : ∀ U : State, U.heap = H → s.WarmedH U.vm → z_Pre OB D DA cl FT TY sz KX g T va.toArray U := by
  intro U hU hW
  unfold z_pck at h
  simp only [Bool.and_eq_true] at h
  obtain ⟨⟨h1, h2⟩, h3⟩ := h
  have hmem := hs.2.2.2.2.2.2.2.2.2
  refine ⟨va, rfl, hl, fun j c0 hj hr => ?_, fun ci hci => ?_, fun q hq => ?_, by rw [hU]; exact hmem.1, hmem.2.1.1, by rw [hU]; exact hsz, va_K.moved hW.alike hK, by rw [hU]; exact hXp.1 s U H hX hW⟩
  · have hlt : j < (g_prm g).length := (List.getElem?_eq_some_iff.mp hj).1
    have h4 := List.all_eq_true.mp h1 j (List.mem_range.mpr hlt)
    have hAj := List.getElem?_eq_getElem (show j < As.length by omega)
    rw [hj, hAj] at h4
    have h4 : ((match g_raw g with
      | some _ => Nat.beq j 0
      | none => false) || (match z_get (z_V st) As[j] with
      | some c' => z_le c' c0
      | none => false)) = true := h4
    rw [Bool.or_eq_true] at h4
    obtain ⟨x, x1, x2⟩ := hA2 _ _ hAj
    rcases h4 with h4 | h4
    · cases hrr : g_raw g with
      | none => rw [hrr] at h4; cases h4
      | some ci =>
        rw [hrr] at h4 hr
        have := z_beq h4
        rcases hr with h | h
        · cases h
        · exact absurd this h
    · split at h4
      · rename_i c1 hc1
        obtain ⟨w, e1, e2⟩ := z_get_ok hs.2.2.2.2.1 hc1
        rw [x2] at e1
        cases e1
        exact ⟨_, x1, z_le_ok h4 e2⟩
      · cases h4
  · rw [hci] at h2
    have h2 : (match As[0]?, cl[ci]? with
      | some a, some r => (z_X st).any (fun p => Nat.beq p.1 a && Nat.beq p.2 ci) && (List.range r.2.2).all (fun k => !(z_zf (FT ci k)) || (match z_ffind st a ci k with
        | some w => (match z_get (z_V st) w with
          | some (.inl z) => z_ile 0 z.1 && z_ile z.2 0
          | _ => false)
        | none => false))
      | _, _ => false) = true := h2
    split at h2
    · rename_i a r ha hr
      rw [Bool.and_eq_true] at h2
      obtain ⟨q, hq, hq2⟩ := List.any_eq_true.mp h2.1
      rw [Bool.and_eq_true] at hq2
      obtain ⟨ad, g1, g2, g3, r2, V, g4, g5⟩ := z_fx_in hs.2.2.2.2.2.2.2.2.1 q hq
      rw [z_beq hq2.1] at g1
      rw [z_beq hq2.2] at g4 g5
      rw [hr] at g4
      cases g4
      obtain ⟨x, x1, x2⟩ := hA2 _ _ ha
      rw [g1] at x2
      cases x2
      refine ⟨ad, r, V, x1, g2, g3.1, hr, by rw [hU]; exact g5, fun k hk hz => ?_⟩
      have h5 := List.all_eq_true.mp h2.2 k (List.mem_range.mpr hk)
      rw [hz] at h5
      have h5 : (match z_ffind st a ci k with
        | some w => (match z_get (z_V st) w with
          | some (.inl z) => z_ile 0 z.1 && z_ile z.2 0
          | _ => false)
        | none => false) = true := by simpa using h5
      split at h5
      · rename_i w hw
        split at h5
        · rename_i z hz2
          rw [Bool.and_eq_true] at h5
          obtain ⟨a2, v2, y1, y2, cell, y3, y4, y5⟩ := z_ffind_ok hw hs
          rw [g1] at y1
          cases y1
          obtain ⟨v3, e1, x5, rfl, x6, x7⟩ := z_get_ok hs.2.2.2.2.1 hz2
          rw [y2] at e1
          cases e1
          obtain ⟨cell2, z1, z2, z3, z4⟩ := g5
          rw [y3] at z1
          cases z1
          have := z4 k hk
          rw [y5] at this
          have l1 := z_ile_ok h5.1
          have l2 := z_ile_ok h5.2
          have hx0 : x5 = 0 := z_int0 (by omega)
          rw [hx0] at this
          exact (Option.some.inj this).symm
        · cases h5
      · cases h5
    · cases h2
  · obtain ⟨i, hi⟩ := List.getElem?_of_mem hq
    have hlt : i < (g_loc g).length := (List.getElem?_eq_some_iff.mp hi).1
    have h4 := List.all_eq_true.mp h3 i (List.mem_range.mpr hlt)
    have hgi := List.getElem?_eq_getElem (show i < gs.length by omega)
    rw [hi, hgi] at h4
    obtain ⟨v, y1, y2⟩ := hgs i q _ hi hgi
    refine ⟨v, by rw [hU]; exact y2, ?_⟩
    have h4 : (match z_get (z_V st) gs[i] with
      | some c => z_le c q.2
      | none => false) = true := h4
    split at h4
    · rename_i c1 hc1
      obtain ⟨w, e1, e2⟩ := z_get_ok hs.2.2.2.2.1 hc1
      rw [y1] at e1
      cases e1
      exact z_le_ok h4 e2
    · cases h4
theorem z_foldr {f : zP → Option (List zS)} : ∀ {L : List zP} {r : List zS} {P : zP}, L.foldr (fun P acc => match f P, acc with
      | some a, some b => some (a ++ b)
      | _, _ => none) (some []) = some r → P ∈ L → ∃ a, f P = some a ∧ ∀ x ∈ a, x ∈ r
  | [], _, _, _, h => absurd h List.not_mem_nil
  | q :: L, r, P, h, hP => by
    rw [List.foldr_cons] at h
    split at h
    · rename_i a b ha hb
      cases h
      rcases List.mem_cons.mp hP with rfl | hP
      · exact ⟨a, ha, fun x hx => List.mem_append_left _ hx⟩
      · obtain ⟨a2, h1, h2⟩ := z_foldr hb hP
        exact ⟨a2, h1, fun x hx => List.mem_append_right _ (h2 x hx)⟩
    · cases h
theorem z_blind {KX : State → Heap → Prop} (hXp : z_KXp sz KX) : FrameBlind (z_Pre OB D DA cl FT TY sz KX g T) := by
  intro a U gf mk h
  obtain ⟨vals, h1, h2, h3, h4, h5, h6, h7, h8, h9, h10⟩ := h
  exact ⟨vals, h1, h2, h3, h4, h5, h6, h7, h8, va_K.moved (u := U) (U := U.calling gf mk a) (Vm.Alike.refl U.vm) h9, hXp.2.2 U (U.calling gf mk a) _ rfl h10⟩
theorem z_r_inv (hg : z_Good p l e R s m args below meth c Q OB D DA cl TY PHI sz raw pu T0 H0 env0 nL good) (hx : p.tables.exec = Jvm.exec) (hb : c.code = cc) (hml : c.maxLocals = nL) (hD : z_Dy s m args Ts own D cl DA (z_tys DA)) (hsz : sz ≤ H0.size) (hXp : z_KXp sz (KXf OB sz)) (hX : KXf OB sz s H0)
    {kind cix : Nat} (hok : z_OK TBL cl FT TY PHI KXf y bytes maxL ret g) (hlk : z_lk Ts own kind i y bytes maxL ret np) (hgd : ∀ w ∈ TBL, w ∈ Ts ∧ z_gw w = true) (hci : kind = 0 → ∃ r, cl[cix]? = some r ∧ r.1 = y.cls)
    (hd : decode cc pc = .ok (z_ins kind i, 3)) {L : List zS} (h : z_inv TY PHI cl FT R pu kind cix maxL np g st = some L) (hall : ∀ st' ∈ L, good (pc + 3) st') : good pc st := by
  refine (hg _ _).mpr fun T H locs env ls stk hs => ?_
  unfold z_inv at h
  obtain ⟨hcode, hini, hmh, hnp, hkind⟩ := hlk
  obtain ⟨hts, hown, hK, htys⟩ := hD
  have hmem := hs.2.2.2.2.2.2.2.2.2
  have hH : sz ≤ H.size := Nat.le_trans hsz hmem.2.2.2.2.1
  have hXH : KXf OB sz s H := hXp.2.1 s H0 H hX hmem.2.2.2.2.1 hmem.2.2.2.2.2.1
  have hnp2 : ∀ sig, parseMethodDescriptor y.desc = some sig → np = sig.parameters.length := by
    intro sig hsig
    rw [hsig] at hnp
    exact (Option.some.inj hnp).symm
  have hwsG : ∀ w ∈ (Cond.code y bytes maxL ret :: TBL), ∀ (a' : Array Value) (U : State), s.WarmedH U.vm → w.before a' U = true := by
    refine z_pay hts (fun w hw => ?_)
    rcases List.mem_cons.mp hw with rfl | hw
    · exact ⟨hcode, rfl⟩
    · exact ⟨(hgd w hw).1, (hgd w hw).2⟩
  -- the common part
  have common : ∀ (hc : z_cal TY PHI cl FT R pu maxL g st = some L), ∃ (va vr : List Value), stk = va.reverse ++ vr ∧ va.length = (g_prm g).length ∧ (∀ U : State, U.heap = H → s.WarmedH U.vm → z_Pre OB D DA cl FT TY sz (KXf OB sz) g T va.toArray U) ∧
      (vr.map fun v => v.category).sum ≤ 8 ∧ (g_rm g).1 + 1 ≤ R.frames ∧ 8 + (maxL + 11) + (g_rm g).2 ≤ R.locals ∧ (z_C st).1 + (g_mk g).1 ≤ R.cells ∧ (z_C st).2 + (g_mk g).2 ≤ R.slots ∧
      ((g_raw g).isSome = true → ∃ b : Nat, va[0]? = some (.ref b)) ∧ (∀ (a n : Nat), (g_prm g).length = n + 1 → (z_S st)[n]? = some a → ∃ v, va[0]? = some v ∧ env[a]? = some v) ∧
      ∀ (v : Option Value) (s1 t : State) (H1 : Heap) (locs1 : List Loc), s1.heap = H → t.heap = H1 → z_Post OB D DA cl TY PHI sz g T va.toArray s1 (.returned v) t → va_S (fun q => sz ≤ q) H0 H1 locs1 → W p l e R s m args below meth c H1 locs1 ((z_C st).1 + (g_mk g).1) ((z_C st).2 + (g_mk g).2) Q (F0 m (pc + 3) ls (v.toList ++ vr)) := by
    intro hc
    unfold z_cal at hc
    split at hc
    · rename_i As rs hpop
      obtain ⟨va, vr, rfl, w1, w2, w3, w4⟩ := z_popn_ok _ hpop hs.2.2.2.1
      split at hc
      · rename_i st1 gs hgl
        have hs0 := z_sat_stS hs w3
        obtain ⟨x, g1, ⟨x1, x2, x3, x4, x5, x6⟩, g3, g4⟩ := z_gls_ok hgl hs0
        split at hc
        · rename_i n hn
          cases hcc : (Nat.ble n 8 && z_pck FT cl g As gs st1 && Nat.ble ((z_C st1).1 + (g_mk g).1) R.cells && Nat.ble ((z_C st1).2 + (g_mk g).2) R.slots && Nat.ble ((g_rm g).1 + 1) R.frames && Nat.ble (8 + (maxL + 11) + (g_rm g).2) R.locals && (Nat.beq (g_ph g) 0 || (Nat.beq (z_ph st1) 0 || (Nat.blt (z_ph st1) 1000 && Nat.blt (g_ph g) 1000))) && (g_pur g || !pu)) with
          | false => rw [hcc] at hc; cases hc
          | true =>
            rw [hcc] at hc
            simp only [Bool.and_eq_true] at hcc
            obtain ⟨⟨⟨⟨⟨⟨⟨c1, c2⟩, c3⟩, c4⟩, c5⟩, c6⟩, c7⟩, c8⟩ := hcc
            have hcat := z_csum_ok hn g1 (z_stk_app w3)
            have hA2 : ∀ (j a : Nat), As[j]? = some a → ∃ x', va[j]? = some x' ∧ (env ++ x)[a]? = some x' := fun j a hj => by
              obtain ⟨v, e1, e2⟩ := w4 j a hj
              exact ⟨v, e1, z_app e2⟩
            have hgs : ∀ (i : Nat) (q : zLoc × zV) (w : Nat), (g_loc g)[i]? = some q → gs[i]? = some w → ∃ v : Value, (env ++ x)[w]? = some v ∧ z_lv D cl H (va[q.1.1]?) q.1 v := by
              intro i q w hi hw
              obtain ⟨v, d, m1, m2, m3⟩ := g4 i q w hi hw
              obtain ⟨v2, n1, n2⟩ := hA2 _ _ m2
              rw [n2, ← n1] at m3
              exact ⟨v, m1, m3⟩
            have hCst : z_C st1 = z_C st := x4
            have hlen : va.length = (g_prm g).length := w1
            refine ⟨va, vr, rfl, hlen, z_pre_ok (w2.trans w1.symm) hlen hA2 g3 hgs g1 c2 hK hXH hXp hH, by rw [hcat]; exact Nat.le_of_ble_eq_true c1, Nat.le_of_ble_eq_true c5, Nat.le_of_ble_eq_true c6, by rw [← hCst]; exact Nat.le_of_ble_eq_true c3, by rw [← hCst]; exact Nat.le_of_ble_eq_true c4, fun hr => ?_, fun a n hpn ha => ?_, fun v s1 t H1 locs1 y1 y2 y3 y4 => ?_⟩
            · cases hrr : g_raw g with
              | none => rw [hrr] at hr; cases hr
              | some ci =>
                obtain ⟨vals, z1, _, _, z4, _⟩ := z_pre_ok (KX := KXf OB sz) (w2.trans w1.symm) hlen hA2 g3 hgs g1 c2 hK hXH hXp hH { s with heap := H } rfl (State.WarmedH.refl s)
                have : va = vals := by have := congrArg Array.toList z1; simpa using this
                subst this
                obtain ⟨a, r, V, z5, _⟩ := z4 ci hrr
                exact ⟨a, z5⟩
            · obtain ⟨h5, h6⟩ := z_cond hpop
              cases h6
              have hle := Nat.le_of_ble_eq_true h5
              have h0 : ((List.take (g_prm g).length (z_S st)).reverse)[0]? = some a := by
                rw [hpn]
                rw [hpn] at hle
                rw [List.getElem?_reverse (by simp; omega)]
                have : (List.take (n + 1) (z_S st)).length - 1 - 0 = n := by simp; omega
                rw [this, List.getElem?_take_of_lt (by omega)]
                exact ha
              exact w4 0 a h0
            · have hph : g_ph g = 0 ∨ (z_ph st1 = 0 ∨ (Nat.blt (z_ph st1) 1000 = true ∧ Nat.blt (g_ph g) 1000 = true)) := by
                rw [Bool.or_eq_true, Bool.or_eq_true, Bool.and_eq_true] at c7
                exact c7.imp z_beq (fun h => h.imp z_beq id)
              have hpu : g_pur g = true ∨ pu = false := by
                rw [Bool.or_eq_true] at c8
                exact c8.imp id (fun h => by simpa using h)
              have hraw : ∀ ci, g_raw g = some ci → ∃ a, As[0]? = some a ∧ z_isx st1 a = true := by
                intro ci hci
                unfold z_pck at c2
                simp only [Bool.and_eq_true] at c2
                have c2 := c2.1.2
                rw [hci] at c2
                have c2 : (match As[0]?, cl[ci]? with
                  | some a, some r => (z_X st1).any (fun p => Nat.beq p.1 a && Nat.beq p.2 ci) && (List.range r.2.2).all (fun k => !(z_zf (FT ci k)) || (match z_ffind st1 a ci k with
                    | some w => (match z_get (z_V st1) w with
                      | some (.inl z) => z_ile 0 z.1 && z_ile z.2 0
                      | _ => false)
                    | none => false))
                  | _, _ => false) = true := c2
                split at c2
                · rename_i a r ha hr
                  rw [Bool.and_eq_true] at c2
                  obtain ⟨q, hq, hq2⟩ := List.any_eq_true.mp c2.1
                  rw [Bool.and_eq_true] at hq2
                  exact ⟨a, ha, List.any_eq_true.mpr ⟨q, hq, hq2.1⟩⟩
                · cases c2
              obtain ⟨T', P, z1, z2, z3, z4, z5⟩ := z_bas_ok g1 (w2.trans w1.symm) hA2 hraw hph hpu y1 y2 y4 y3
              obtain ⟨L1, hL1, hL2⟩ := z_foldr hc z2
              obtain ⟨st', env', u1, u2, u3⟩ := z_cas_ok (w2.trans w1.symm) hA2 g3 hgs z1 z3 hL1
              have kk := (hg _ _).mp (hall st' (hL2 st' u1)) T' H1 locs1 env' ls _ u3
              rw [u2, hCst] at kk
              exact kk
        · cases hc
      · cases hc
    · cases hc
  match kind, hkind, hd, hci, h with
  | 0, hkind, hd, hci, h =>
    obtain ⟨k1, k2, k3⟩ := hkind
    cases hcond : (Nat.beq (g_prm g).length (np + 1) && (g_raw g).isNone && (match (z_S st)[np]? with
      | some a => z_rcv TY st cix a
      | none => false)) with
    | false => simp only [hcond] at h; cases h
    | true =>
      simp only [hcond] at h
      obtain ⟨va, vr, rfl, w1, w2, w3, w4, w5, w6, w7, w8, w9, w10⟩ := common h
      simp only [Bool.and_eq_true] at hcond
      obtain ⟨⟨d1, d2⟩, d3⟩ := hcond
      have hpl := z_beq d1
      cases hsn : (z_S st)[np]? with
      | none => rw [hsn] at d3; cases d3
      | some a =>
        rw [hsn] at d3
        have d3 : z_rcv TY st cix a = true := d3
        unfold z_rcv at d3
        split at d3
        · rename_i t ht
          split at d3
          · rename_i o hto
            obtain ⟨ci, fl⟩ := o
            have hcc : ci = cix := z_beq d3
            subst hcc
            obtain ⟨b, r, V, y1, y2, y3, y4, ⟨cell, y5, y6, y7, y8⟩, y9⟩ := z_obj hs ht hto
            obtain ⟨v0, e1, e2⟩ := w9 a np hpl hsn
            rw [y1] at e2
            cases e2
            obtain ⟨r2, hr2, hr3⟩ := hci rfl
            rw [y3] at hr2
            cases hr2
            cases va with
            | nil => simp at e1
            | cons v0 As2 =>
              have : v0 = .ref b := by simpa using e1
              subst this
              have hAl : As2.length = np := by
                have : (Value.ref b :: As2).length = (g_prm g).length := w1
                rw [hpl] at this
                simpa using this
              have hstk : (Value.ref b :: As2).reverse ++ vr = As2.reverse ++ .ref b :: vr := by simp
              rw [hstk]
              refine z_after (va_runV (b := b) (As := As2) (rest := vr) (C := y.cls) (n := np) ⟨hx, hb, hml, hown, hts⟩ (hok l OB D DA sz T) ⟨⟨rfl, rfl, w4, w5, hwsG, List.mem_cons_self, hts _ hcode, hts _ hini, hmh, hnp2, hts _ k1⟩, hts _ k2, hts _ k3⟩ ⟨z_blind hXp, ⟨cell, y5, by rw [y7]; rfl, ?_⟩, w2⟩ rfl hAl ?_ rfl (lv_room w3) hd ⟨w6, w7⟩) hmem.2.2.2.2 w10
              · rw [← hr3, y6]; exact (hK.1 _ _ y3).2.1
              · obtain ⟨lv, z1, _⟩ := hs.2.2.1; exact z1.1
          · cases d3
        · cases d3
  | 1, hkind, hd, hci, h =>
    obtain ⟨k1, k2⟩ := hkind
    cases hcond : (Nat.beq (g_prm g).length np && (g_raw g).isNone) with
    | false => simp only [hcond] at h; cases h
    | true =>
      simp only [hcond] at h
      obtain ⟨va, vr, rfl, w1, w2, w3, w4, w5, w6, w7, w8, w9, w10⟩ := common h
      simp only [Bool.and_eq_true] at hcond
      have hpl := z_beq hcond.1
      refine z_after (va_runS (As := va) (rest := vr) (n := np) ⟨hx, hb, hml, hown, hts⟩ (hok l OB D DA sz T) ⟨⟨rfl, rfl, w4, w5, hwsG, List.mem_cons_self, hts _ hcode, hts _ hini, hmh, hnp2, hts _ k1⟩, hts _ k2⟩ ⟨z_blind hXp, w2⟩ rfl (w1.trans hpl) ?_ rfl (lv_room w3) hd ⟨w6, w7⟩) hmem.2.2.2.2 w10
      obtain ⟨lv, z1, _⟩ := hs.2.2.1
      exact z1.1
  | 2, hkind, hd, hci, h =>
    obtain ⟨k1, k2, k3, rfl⟩ := hkind
    cases hcond : (Nat.beq (g_prm g).length (np + 1) && (g_raw g).isSome) with
    | false => simp only [hcond] at h; cases h
    | true =>
      simp only [hcond] at h
      obtain ⟨va, vr, rfl, w1, w2, w3, w4, w5, w6, w7, w8, w9, w10⟩ := common h
      simp only [Bool.and_eq_true] at hcond
      have hpl := z_beq hcond.1
      obtain ⟨b, hb0⟩ := w8 hcond.2
      cases va with
      | nil => simp at hb0
      | cons v0 As2 =>
        have : v0 = .ref b := by simpa using hb0
        subst this
        have hAl : As2.length = np := by
          have : (Value.ref b :: As2).length = (g_prm g).length := w1
          rw [hpl] at this
          simpa using this
        have hstk : (Value.ref b :: As2).reverse ++ vr = As2.reverse ++ .ref b :: vr := by simp
        rw [hstk]
        refine z_after (va_runI (b := b) (As := As2) (rest := vr) (n := np) ⟨hx, hb, hml, hown, hts⟩ (hok l OB D DA sz T) ⟨⟨rfl, rfl, w4, w5, hwsG, List.mem_cons_self, hts _ hcode, hts _ hini, hmh, hnp2, hts _ k1⟩, k3, hts _ k2⟩ ⟨z_blind hXp, w2⟩ rfl hAl ?_ rfl (lv_room w3) hd ⟨w6, w7⟩) hmem.2.2.2.2 w10
        obtain ⟨lv, z1, _⟩ := hs.2.2.1
        exact z1.1
  | 3, hkind, hd, hci, h =>
    obtain ⟨⟨host, k1⟩, k2, k3, rfl⟩ := hkind
    cases hcond : (Nat.beq (g_prm g).length (np + 1) && (g_raw g).isSome) with
    | false => simp only [hcond] at h; cases h
    | true =>
      simp only [hcond] at h
      obtain ⟨va, vr, rfl, w1, w2, w3, w4, w5, w6, w7, w8, w9, w10⟩ := common h
      simp only [Bool.and_eq_true] at hcond
      have hpl := z_beq hcond.1
      obtain ⟨b, hb0⟩ := w8 hcond.2
      cases va with
      | nil => simp at hb0
      | cons v0 As2 =>
        have : v0 = .ref b := by simpa using hb0
        subst this
        have hAl : As2.length = np := by
          have : (Value.ref b :: As2).length = (g_prm g).length := w1
          rw [hpl] at this
          simpa using this
        have hstk : (Value.ref b :: As2).reverse ++ vr = As2.reverse ++ .ref b :: vr := by simp
        rw [hstk]
        refine z_after (va_runIN (b := b) (As := As2) (rest := vr) (n := np) ⟨hx, hb, hml, hown, hts⟩ (hok l OB D DA sz T) ⟨⟨⟨rfl, rfl, w4, w5, hwsG, List.mem_cons_self⟩, hts _ hcode, hts _ hini, hmh, hnp2, hts _ k1⟩, k3, hts _ k2⟩ ⟨z_blind hXp, w2⟩ rfl hAl ?_ rfl (lv_room w3) hd ⟨w6, w7⟩) hmem.2.2.2.2 w10
        obtain ⟨lv, z1, _⟩ := hs.2.2.1
        exact z1.1
  | 4, hkind, hd, hci, h =>
    obtain ⟨⟨host, k1⟩, k2⟩ := hkind
    cases hcond : (Nat.beq (g_prm g).length np && (g_raw g).isNone) with
    | false => simp only [hcond] at h; cases h
    | true =>
      simp only [hcond] at h
      obtain ⟨va, vr, rfl, w1, w2, w3, w4, w5, w6, w7, w8, w9, w10⟩ := common h
      simp only [Bool.and_eq_true] at hcond
      have hpl := z_beq hcond.1
      refine z_after (va_runSN (As := va) (rest := vr) (n := np) ⟨hx, hb, hml, hown, hts⟩ (hok l OB D DA sz T) ⟨⟨⟨rfl, rfl, w4, w5, hwsG, List.mem_cons_self⟩, hts _ hcode, hts _ hini, hmh, hnp2, hts _ k1⟩, hts _ k2, trivial⟩ ⟨z_blind hXp, w2⟩ rfl (w1.trans hpl) ?_ rfl (lv_room w3) hd ⟨w6, w7⟩) hmem.2.2.2.2 w10
      obtain ⟨lv, z1, _⟩ := hs.2.2.1
      exact z1.1
  | k + 5, hkind, hd, hci, h =>
    obtain ⟨⟨host, k1⟩, k2, k3, rfl⟩ := hkind
    cases hcond : (Nat.beq (g_prm g).length (np + 1) && (g_raw g).isSome) with
    | false => simp only [hcond] at h; cases h
    | true =>
      simp only [hcond] at h
      obtain ⟨va, vr, rfl, w1, w2, w3, w4, w5, w6, w7, w8, w9, w10⟩ := common h
      simp only [Bool.and_eq_true] at hcond
      have hpl := z_beq hcond.1
      obtain ⟨b, hb0⟩ := w8 hcond.2
      cases va with
      | nil => simp at hb0
      | cons v0 As2 =>
        have : v0 = .ref b := by simpa using hb0
        subst this
        have hAl : As2.length = np := by
          have : (Value.ref b :: As2).length = (g_prm g).length := w1
          rw [hpl] at this
          simpa using this
        have hstk : (Value.ref b :: As2).reverse ++ vr = As2.reverse ++ .ref b :: vr := by simp
        rw [hstk]
        refine z_after (va_runIN (b := b) (As := As2) (rest := vr) (n := np) ⟨hx, hb, hml, hown, hts⟩ (hok l OB D DA sz T) ⟨⟨⟨rfl, rfl, w4, w5, hwsG, List.mem_cons_self⟩, hts _ hcode, hts _ hini, hmh, hnp2, hts _ k1⟩, k3, hts _ k2⟩ ⟨z_blind hXp, w2⟩ rfl hAl ?_ rfl (lv_room w3) hd ⟨w6, w7⟩) hmem.2.2.2.2 w10
        obtain ⟨lv, z1, _⟩ := hs.2.2.1
        exact z1.1
end ZCALLS4
end
section
/-! One step. -/
/-- a method: name, code, locals, answer, parameters (without this), the place of its class -/
abbrev zM : Type := MethodName × ByteArray × Nat × Option FieldType × Nat × Nat
/-- what a method's check is given: fields, classes, links (index, kind, method), constants, calls (place, contract), arrays (place, type), acts ahead of a place -/
abbrev zK : Type := List (Nat × Nat × Nat) × List (Nat × Nat) × List (Nat × Nat × Nat) × List (Nat × Int32) × List (Nat × Nat) × List (Nat × Nat) × List (Nat × Nat × Nat × Int) × Option Nat
abbrev k_FL (k : zK) := k.1
abbrev k_CL (k : zK) := k.2.1
abbrev k_LK (k : zK) := k.2.2.1
abbrev k_CT (k : zK) := k.2.2.2.1
abbrev k_CA (k : zK) := k.2.2.2.2.1
abbrev k_NA (k : zK) := k.2.2.2.2.2.1
abbrev k_AC (k : zK) := k.2.2.2.2.2.2.1
abbrev k_IN (k : zK) := k.2.2.2.2.2.2.2
def z_one (len k pc : Nat) (o : Option zS) : Option (List (Nat × zS)) := cond (Nat.beq len k) (o.map (fun s => [(pc + k, s)])) none
def z_all (len k pc : Nat) (o : Option (List zS)) : Option (List (Nat × zS)) := cond (Nat.beq len k) (o.map (fun L => L.map (fun s => (pc + k, s)))) none
def z_calls (TY : List zTy) (PHI : List (List Nat)) (cl : List vw_C) (FT : Nat → Nat → FieldType) (MT : List zM) (SG : List (Nat × zSig)) (R : Room) (pu : Bool) (K : zK) (kinds : Nat → Bool) (pc i : Nat) (st : zS) : Option (List zS) := match (k_LK K).find? (fun q => Nat.beq q.1 i && kinds q.2.1) with
  | some q => (k_CA K).findSome? (fun a => cond (Nat.beq a.1 pc) (match SG[a.2]? with
    | some g => cond (Nat.beq g.1 q.2.2) (match MT[g.1]? with
      | some m => z_inv TY PHI cl FT R pu q.2.1 m.2.2.2.2.2 m.2.2.1 m.2.2.2.2.1 g.2 st
      | none => none) none
    | none => none) none)
  | none => none
/-- the making of an Object -/
def z_obi (R : Room) (K : zK) (i : Nat) (st : zS) : Option zS := match z_S st, (k_LK K).find? (fun q => Nat.beq q.1 i && Nat.beq q.2.1 9) with
  | d :: S, some _ => cond (z_isr st d && Nat.ble 1 R.frames) (match z_csum st S with
    | some n => cond (Nat.ble (n + 12) R.locals) (some (z_stS st S)) none
    | none => none) none
  | _, _ => none
def z_step (TY : List zTy) (PHI : List (List Nat)) (cl : List vw_C) (FT : Nat → Nat → FieldType) (MT : List zM) (SG : List (Nat × zSig)) (RO : List Nat) (R : Room) (pu : Bool) (nL : Nat) (K : zK) (pc : Nat) (ins : Instr) (len : Nat) (st : zS) : Option (List (Nat × zS)) := match ins with
  | .iconst n => z_one len 1 pc (z_iconst st n)
  | .bipush n => z_one len 2 pc (z_bip st n)
  | .sipush n => z_one len 3 pc (z_sip st n)
  | .ldc i => z_one len 2 pc (match (k_CT K).find? (fun q => Nat.beq q.1 i) with
    | some q => z_iconst st q.2.toInt
    | none => none)
  | .ldc_w i => z_one len 3 pc (match (k_CT K).find? (fun q => Nat.beq q.1 i) with
    | some q => z_iconst st q.2.toInt
    | none => none)
  | .iload i => z_one len 2 pc (z_iload st i)
  | .iload_n i => z_one len 1 pc (z_iload st i.val)
  | .aload i => z_one len 2 pc (z_aload st i)
  | .aload_n i => z_one len 1 pc (z_aload st i.val)
  | .istore i => z_one len 2 pc (z_istore nL st i)
  | .istore_n i => z_one len 1 pc (z_istore nL st i.val)
  | .astore i => z_one len 2 pc (z_astore nL st i)
  | .astore_n i => z_one len 1 pc (z_astore nL st i.val)
  | .iinc i n => z_one len 3 pc (z_iinc nL st i n)
  | .dup => z_one len 1 pc (z_dup st)
  | .dup_x1 => z_one len 1 pc (z_dupx1 st)
  | .dup2 => z_one len 1 pc (z_dup2 st)
  | .pop => z_one len 1 pc (z_pop st)
  | .iadd => z_one len 1 pc (z_iadd st)
  | .isub => z_one len 1 pc (z_isub st)
  | .imul => z_one len 1 pc (z_bin z_mul st)
  | .idiv => z_one len 1 pc (z_bin0 z_div st)
  | .irem => z_one len 1 pc (z_bin0 z_rem st)
  | .iand => z_one len 1 pc (z_bin z_and st)
  | .ior => z_one len 1 pc (z_bin z_or st)
  | .ixor => z_one len 1 pc (z_bin z_xor st)
  | .ishl => z_one len 1 pc (z_bin z_shl st)
  | .ishr => z_one len 1 pc (z_bin z_shr st)
  | .iushr => z_one len 1 pc (z_bin z_ushr st)
  | .ineg => z_one len 1 pc (z_un z_neg st)
  | .i2b => z_one len 1 pc (z_un z_i2b st)
  | .i2c => z_one len 1 pc (z_un z_i2c st)
  | .if_icmp k off => cond (Nat.beq len 3) (z_icmp st pc k off) none
  | .ifCond k off => cond (Nat.beq len 3) (z_icnd st pc k off) none
  | .goto off => cond (Nat.beq len 3) ((z_to pc off).map (fun t => [(t, st)])) none
  | .tableswitch d lo hi offs => z_tsw st pc d lo hi offs.toList
  | .lookupswitch d ps => z_lsw st pc d ps.toList
  | .getfield i => z_one len 3 pc (z_getf TY (k_FL K) st i)
  | .putfield i => cond pu none (z_one len 3 pc (z_putf TY cl FT (k_IN K) (k_FL K) st i))
  | .iaload => z_one len 1 pc (z_ald TY 0 st)
  | .baload => z_one len 1 pc (z_ald TY 1 st)
  | .laload => z_one len 1 pc (z_ald TY 2 st)
  | .iastore => cond pu none (z_one len 1 pc (z_ast TY RO 0 st))
  | .bastore => cond pu none (z_one len 1 pc (z_ast TY RO 1 st))
  | .lastore => cond pu none (z_one len 1 pc (z_ast TY RO 2 st))
  | .arraylength => z_one len 1 pc (z_alen TY st)
  | .newarray a => cond pu none (z_one len 2 pc (match z_at a, (k_NA K).find? (fun q => Nat.beq q.1 pc) with
    | some ek, some q => z_nwa TY R.cells R.slots q.2 ek st
    | _, _ => none))
  | .new i => cond pu none (z_one len 3 pc (z_new (k_CL K) cl FT R.cells R.slots st i))
  | .lconst _ => z_one len 1 pc (z_lc0 st)
  | .lshl => z_one len 1 pc (z_lsh st)
  | .lor => z_one len 1 pc (z_l2 (.inr (.inr 0)) st)
  | .lcmp => z_one len 1 pc (z_l2 (.inl z_full) st)
  | .invokevirtual i => z_all len 3 pc (z_calls TY PHI cl FT MT SG R pu K (fun k => Nat.beq k 0) pc i st)
  | .invokestatic i => cond ((k_LK K).any (fun q => Nat.beq q.1 i && Nat.beq q.2.1 8)) (cond pu none (z_one len 3 pc (z_acp TY RO R st))) (z_all len 3 pc (z_calls TY PHI cl FT MT SG R pu K (fun k => Nat.beq k 1 || Nat.beq k 4) pc i st))
  | .invokespecial i => (match z_obi R K i st with
    | some s => z_one len 3 pc (some s)
    | none => z_all len 3 pc (z_calls TY PHI cl FT MT SG R pu K (fun k => Nat.beq k 2 || Nat.beq k 3) pc i st))
  | _ => none
/-- what the tables say of a method's own places -/
def z_KS (Ts TBL : List Cond) (cl : List vw_C) (FT : Nat → Nat → FieldType) (own : String) (MT : List zM) (K : zK) : Prop :=
  z_St Ts cl FT own (k_FL K) ∧ (∀ q ∈ k_CL K, ∃ r, cl[q.2]? = some r ∧ Cond.classLink own q.1 r.1 ∈ Ts ∧ Cond.instantiable r.1 r.2.2 ∈ Ts ∧ Cond.initialized r.1 ∈ Ts) ∧
  (∀ q ∈ k_LK K, (q.2.1 = 9 → Cond.methodLink own q.1 Lib.objectInit ∈ Ts ∧ Cond.instanceMethod Lib.objectInit ∈ Ts ∧ Cond.code Lib.objectInit ⟨#[0xb1]⟩ 1 none ∈ Ts) ∧ (q.2.1 = 8 → Cond.methodLink own q.1 arraycopyName ∈ Ts ∧ Cond.native arraycopyName ∈ Ts ∧ Cond.static arraycopyName ∈ Ts ∧ Cond.initialized "java/lang/System" ∈ Ts) ∧ (q.2.1 ≤ 4 → ∃ mm, MT[q.2.2]? = some mm ∧ z_lk Ts own q.2.1 q.1 mm.1 mm.2.1 mm.2.2.1 mm.2.2.2.1 mm.2.2.2.2.1 ∧ (q.2.1 = 0 → ∃ r, cl[mm.2.2.2.2.2]? = some r ∧ r.1 = mm.1.cls))) ∧
  (∀ q ∈ k_CT K, Cond.constant own q.1 q.2 ∈ Ts) ∧ (∀ k, k < 3 → Cond.arrayClass (z_ek k) ∈ Ts) ∧ (∀ w ∈ TBL, w ∈ Ts ∧ z_gw w = true) ∧ (∀ j r, k_IN K = some j → cl[j]? = some r → r.1 = own)
section ZSTEP
variable {p : Program} {l : Launch} {e : Env} {R : Room} {s : State} {m : MethodId} {args : Array Value} {below : List Frame} {meth : Method} {c : Code} {Q : State → Prop} {cc : ByteArray} {pc : Nat}
variable {OB : Nat → Nat} {D : va_G} {DA : Nat → ClassId} {cl : List vw_C} {FT : Nat → Nat → FieldType} {TY : List zTy} {PHI : List (List Nat)} {sz : Nat} {raw : Option Nat} {pu : Bool} {T0 : zTp} {H0 : Heap} {env0 : List Value} {nL : Nat} {st st' : zS} {KXf : (Nat → Nat) → Nat → State → Heap → Prop} {good : Nat → zS → Prop}
variable {Ts TBL : List Cond} {own : String} {MT : List zM} {SG : List (Nat × zSig)} {RO : List Nat} {K : zK}
theorem z_one_ok {len k : Nat} {o : Option zS} {L : List (Nat × zS)} (h : z_one len k pc o = some L) (hall : ∀ q ∈ L, good q.1 q.2) : len = k ∧ ∃ st', o = some st' ∧ good (pc + k) st' := by
  unfold z_one at h
  cases hb : Nat.beq len k with
  | false => rw [hb] at h; cases h
  | true =>
    rw [hb] at h
    cases o with
    | none => cases h
    | some s =>
      cases h
      exact ⟨z_beq hb, s, rfl, hall _ (List.mem_singleton.mpr rfl)⟩
theorem z_all_ok {len k : Nat} {o : Option (List zS)} {L : List (Nat × zS)} (h : z_all len k pc o = some L) (hall : ∀ q ∈ L, good q.1 q.2) : len = k ∧ ∃ L', o = some L' ∧ ∀ s ∈ L', good (pc + k) s := by
  unfold z_all at h
  cases hb : Nat.beq len k with
  | false => rw [hb] at h; cases h
  | true =>
    rw [hb] at h
    cases o with
    | none => cases h
    | some L' =>
      cases h
      exact ⟨z_beq hb, L', rfl, fun s hs => hall (pc + k, s) (List.mem_map.mpr ⟨s, hs, rfl⟩)⟩
theorem z_calls_ok (hg : z_Good p l e R s m args below meth c Q OB D DA cl TY PHI sz raw pu T0 H0 env0 nL good) (hx : p.tables.exec = Jvm.exec) (hb : c.code = cc) (hml : c.maxLocals = nL) (hD : z_Dy s m args Ts own D cl DA (z_tys DA)) (hsz : sz ≤ H0.size) (hXp : z_KXp sz (KXf OB sz)) (hX : KXf OB sz s H0) (hKS : z_KS Ts TBL cl FT own MT K)
    (hok : ∀ g ∈ (k_CA K).filterMap (fun a => SG[a.2]?), ∀ mm, MT[g.1]? = some mm → z_OK TBL cl FT TY PHI KXf mm.1 mm.2.1 mm.2.2.1 mm.2.2.2.1 g.2) {i : Nat} {kinds : Nat → Bool} {ins : Instr} (hk : ∀ k, kinds k = true → k ≤ 4 ∧ z_ins k i = ins) (hd : decode cc pc = .ok (ins, 3)) {L : List zS} (h : z_calls TY PHI cl FT MT SG R pu K kinds pc i st = some L) (hall : ∀ s ∈ L, good (pc + 3) s) : good pc st := by
  unfold z_calls at h
  split at h
  · rename_i q hq
    have hm := List.mem_of_find?_eq_some hq
    have hp := List.find?_some hq
    rw [Bool.and_eq_true] at hp
    have hi : q.1 = i := z_beq hp.1
    obtain ⟨hk1, hk2⟩ := hk _ hp.2
    obtain ⟨a, ha, ha2⟩ := List.exists_of_findSome?_eq_some h
    cases hb1 : Nat.beq a.1 pc with
    | false => rw [hb1] at ha2; cases ha2
    | true =>
      rw [hb1] at ha2
      have ha2 : (match SG[a.2]? with
        | some g => cond (Nat.beq g.1 q.2.2) (match MT[g.1]? with
          | some m => z_inv TY PHI cl FT R pu q.2.1 m.2.2.2.2.2 m.2.2.1 m.2.2.2.2.1 g.2 st
          | none => none) none
        | none => none) = some L := ha2
      split at ha2
      · rename_i g hg2
        cases hb2 : Nat.beq g.1 q.2.2 with
        | false => rw [hb2] at ha2; cases ha2
        | true =>
          rw [hb2] at ha2
          have ha2 : (match MT[g.1]? with
            | some m => z_inv TY PHI cl FT R pu q.2.1 m.2.2.2.2.2 m.2.2.1 m.2.2.2.2.1 g.2 st
            | none => none) = some L := ha2
          split at ha2
          · rename_i mm hmm
            have hgq := z_beq hb2
            obtain ⟨mm2, k1, k2, k3⟩ := (hKS.2.2.1 q hm).2.2 hk1
            rw [← hgq, hmm] at k1
            cases k1
            rw [hi] at k2
            exact z_r_inv hg hx hb hml hD hsz hXp hX (hok g (List.mem_filterMap.mpr ⟨a, ha, hg2⟩) _ hmm) k2 hKS.2.2.2.2.2.1 k3 (by rw [hk2]; exact hd) ha2 hall
          · cases ha2
      · cases ha2
  · cases h
end ZSTEP
end
section
/-! A step is sound. -/
section ZSTEP2
variable {p : Program} {l : Launch} {e : Env} {R : Room} {s : State} {m : MethodId} {args : Array Value} {below : List Frame} {meth : Method} {c : Code} {Q : State → Prop} {cc : ByteArray} {pc : Nat}
variable {OB : Nat → Nat} {D : va_G} {DA : Nat → ClassId} {cl : List vw_C} {FT : Nat → Nat → FieldType} {TY : List zTy} {PHI : List (List Nat)} {sz : Nat} {raw : Option Nat} {pu : Bool} {T0 : zTp} {H0 : Heap} {env0 : List Value} {nL : Nat} {st st' : zS} {KXf : (Nat → Nat) → Nat → State → Heap → Prop} {good : Nat → zS → Prop}
variable {Ts TBL : List Cond} {own : String} {MT : List zM} {SG : List (Nat × zSig)} {RO : List Nat} {K : zK}
theorem z_r_bin (hg : z_Good p l e R s m args below meth c Q OB D DA cl TY PHI sz raw pu T0 H0 env0 nL good) {f : zR → zR → zR} {op : Int32 → Int32 → Int32} (hf : ∀ a b x y, z_in a x → z_in b y → z_in (f a b) (op x y)) {k1 : Nat}
    (row : ∀ {H : Heap} {locs : List Loc} {cells slots : Nat} {ls : Array Slot} {rest : List Value} {x y : Int32}, W p l e R s m args below meth c H locs cells slots Q (F0 m k1 ls (.int (op x y) :: rest)) → W p l e R s m args below meth c H locs cells slots Q (F0 m pc ls (.int y :: .int x :: rest))) (h : z_bin f st = some st') (k : good k1 st') : good pc st := by
  refine (hg _ _).mpr fun T H locs env ls stk hs => ?_
  obtain ⟨x, y, kk, rfl, h1, h2⟩ := z_bin_ok hf h hs
  have := (hg _ _).mp k T H locs _ ls _ h2
  rw [h1] at this
  exact row this
theorem z_r_bin0 (hg : z_Good p l e R s m args below meth c Q OB D DA cl TY PHI sz raw pu T0 H0 env0 nL good) {f : zR → zR → zR} {op : Int32 → Int32 → Int32} (hf : ∀ a b x y, z_in a x → z_in b y → z_in (f a b) (op x y)) {k1 : Nat}
    (row : ∀ {H : Heap} {locs : List Loc} {cells slots : Nat} {ls : Array Slot} {rest : List Value} {x y : Int32}, ¬ y = 0 → W p l e R s m args below meth c H locs cells slots Q (F0 m k1 ls (.int (op x y) :: rest)) → W p l e R s m args below meth c H locs cells slots Q (F0 m pc ls (.int y :: .int x :: rest))) (h : z_bin0 f st = some st') (k : good k1 st') : good pc st := by
  refine (hg _ _).mpr fun T H locs env ls stk hs => ?_
  obtain ⟨x, y, kk, rfl, h0, h1, h2⟩ := z_bin0_ok hf h hs
  have := (hg _ _).mp k T H locs _ ls _ h2
  rw [h1] at this
  exact row h0 this
theorem z_r_un (hg : z_Good p l e R s m args below meth c Q OB D DA cl TY PHI sz raw pu T0 H0 env0 nL good) {f : zR → zR} {op : Int32 → Int32} (hf : ∀ a x, z_in a x → z_in (f a) (op x)) {k1 : Nat}
    (row : ∀ {H : Heap} {locs : List Loc} {cells slots : Nat} {ls : Array Slot} {rest : List Value} {x : Int32}, W p l e R s m args below meth c H locs cells slots Q (F0 m k1 ls (.int (op x) :: rest)) → W p l e R s m args below meth c H locs cells slots Q (F0 m pc ls (.int x :: rest))) (h : z_un f st = some st') (k : good k1 st') : good pc st := by
  refine (hg _ _).mpr fun T H locs env ls stk hs => ?_
  obtain ⟨x, kk, rfl, h1, h2⟩ := z_un_ok hf h hs
  have := (hg _ _).mp k T H locs _ ls _ h2
  rw [h1] at this
  exact row this
theorem z_r_obi (hg : z_Good p l e R s m args below meth c Q OB D DA cl TY PHI sz raw pu T0 H0 env0 nL good) (hx : p.tables.exec = Jvm.exec) (hb : c.code = cc) (hml : c.maxLocals = nL) (hts : ∀ w ∈ Ts, w.before args s = true) (hown : s.vm.findClass own = some m.cls) (hKS : z_KS Ts TBL cl FT own MT K) {i : Nat} (hd : decode cc pc = .ok (.invokespecial i, 3)) (h : z_obi R K i st = some st') (k : good (pc + 3) st') : good pc st := by
  refine (hg _ _).mpr fun T H locs env ls stk hs => ?_
  unfold z_obi at h
  split at h
  · rename_i d S q hS hq
    have hm := List.mem_of_find?_eq_some hq
    have hp := List.find?_some hq
    rw [Bool.and_eq_true] at hp
    have hi : q.1 = i := z_beq hp.1
    obtain ⟨w1, w2, w3⟩ := (hKS.2.2.1 q hm).1 (z_beq hp.2)
    rw [hi] at w1
    cases hc : (z_isr st d && Nat.ble 1 R.frames) with
    | false => rw [hc] at h; cases h
    | true =>
      rw [hc] at h
      rw [Bool.and_eq_true] at hc
      have h : (match z_csum st S with
        | some n => cond (Nat.ble (n + 12) R.locals) (some (z_stS st S)) none
        | none => none) = some st' := h
      split at h
      · rename_i n hn
        obtain ⟨h1, rfl⟩ := z_cond h
        obtain ⟨v, kk, rfl, e1, hk⟩ := z_stk_cons hS hs.2.2.2.1
        obtain ⟨a, e2⟩ := z_isr_ok hc.1 hs
        rw [e1] at e2
        cases e2
        have hcat := z_csum_ok hn hs hk
        have hle := Nat.le_of_ble_eq_true h1
        have hlsz : ls.size = nL := by obtain ⟨lv, z1, _⟩ := hs.2.2.1; exact z1.1
        refine W.objInit hx hb hown (hts _ w1) (hts _ w2) (hts _ w3) rfl (by show ls.size = c.maxLocals; rw [hlsz, hml]) rfl hd (Nat.le_of_ble_eq_true hc.2) (by show 2 * 0 + _ + 12 ≤ _; rw [hcat]; omega) ?_
        exact (hg _ _).mp k T H locs env ls _ (z_sat_stS hs hk)
      · cases h
  · cases h
set_option maxHeartbeats 4000000 in
theorem z_step_ok (hg : z_Good p l e R s m args below meth c Q OB D DA cl TY PHI sz raw pu T0 H0 env0 nL good) (hx : p.tables.exec = Jvm.exec) (hb : c.code = cc) (hml : c.maxLocals = nL) (hD : z_Dy s m args Ts own D cl DA (z_tys DA)) (hsz : sz ≤ H0.size) (hXp : z_KXp sz (KXf OB sz)) (hX : KXf OB sz s H0) (hKS : z_KS Ts TBL cl FT own MT K) (hin : ∀ j, k_IN K = some j → meth.name = "<init>")
    (hok : ∀ g ∈ (k_CA K).filterMap (fun a => SG[a.2]?), ∀ mm, MT[g.1]? = some mm → z_OK TBL cl FT TY PHI KXf mm.1 mm.2.1 mm.2.2.1 mm.2.2.2.1 g.2) {ins : Instr} {len : Nat} (hd : decode cc pc = .ok (ins, len)) {L : List (Nat × zS)} (h : z_step TY PHI cl FT MT SG RO R pu nL K pc ins len st = some L) (hall : ∀ q ∈ L, good q.1 q.2) : good pc st := by
  have hpu : ∀ {o : Option (List (Nat × zS))}, cond pu none o = some L → pu = false ∧ o = some L := by
    intro o ho
    cases hq : pu with
    | true => rw [hq] at ho; cases ho
    | false => rw [hq] at ho; exact ⟨rfl, ho⟩
  have hini : ∀ j r, k_IN K = some j → cl[j]? = some r → meth.name = "<init>" ∧ r.1 = own := fun j r h1 h2 => ⟨hin j h1, hKS.2.2.2.2.2.2 j r h1 h2⟩
  unfold z_step at h
  split at h
  · obtain ⟨rfl, s1, h1, k⟩ := z_one_ok h hall; exact z_r_iconst hg hx hb hd h1 k
  · obtain ⟨rfl, s1, h1, k⟩ := z_one_ok h hall; exact z_r_bip hg hx hb hd h1 k
  · obtain ⟨rfl, s1, h1, k⟩ := z_one_ok h hall; exact z_r_sip hg hx hb hd h1 k
  · obtain ⟨rfl, s1, h1, k⟩ := z_one_ok h hall
    split at h1
    · rename_i q hq
      have hq1 := List.find?_some hq
      have hi := z_beq hq1
      have hc := hD.1 _ (hKS.2.2.2.1 q (List.mem_of_find?_eq_some hq))
      rw [hi] at hc
      exact z_r_ldc hg hx hb hD.2.1 hc hd h1 k
    · cases h1
  · obtain ⟨rfl, s1, h1, k⟩ := z_one_ok h hall
    split at h1
    · rename_i q hq
      have hq1 := List.find?_some hq
      have hi := z_beq hq1
      have hc := hD.1 _ (hKS.2.2.2.1 q (List.mem_of_find?_eq_some hq))
      rw [hi] at hc
      exact z_r_ldcw hg hx hb hD.2.1 hc hd h1 k
    · cases h1
  · obtain ⟨rfl, s1, h1, k⟩ := z_one_ok h hall; exact z_r_iload hg hx hb hd h1 k
  · obtain ⟨rfl, s1, h1, k⟩ := z_one_ok h hall; exact z_r_iload_n hg hx hb hd h1 k
  · obtain ⟨rfl, s1, h1, k⟩ := z_one_ok h hall; exact z_r_aload hg hx hb hd h1 k
  · obtain ⟨rfl, s1, h1, k⟩ := z_one_ok h hall; exact z_r_aload_n hg hx hb hd h1 k
  · obtain ⟨rfl, s1, h1, k⟩ := z_one_ok h hall; exact z_r_istore hg hx hb hd h1 k
  · obtain ⟨rfl, s1, h1, k⟩ := z_one_ok h hall; exact z_r_istore_n hg hx hb hd h1 k
  · obtain ⟨rfl, s1, h1, k⟩ := z_one_ok h hall; exact z_r_astore hg hx hb hd h1 k
  · obtain ⟨rfl, s1, h1, k⟩ := z_one_ok h hall; exact z_r_astore_n hg hx hb hd h1 k
  · obtain ⟨rfl, s1, h1, k⟩ := z_one_ok h hall; exact z_r_iinc hg hx hb hd h1 k
  · obtain ⟨rfl, s1, h1, k⟩ := z_one_ok h hall; exact z_r_dup hg hx hb hd h1 k
  · obtain ⟨rfl, s1, h1, k⟩ := z_one_ok h hall; exact z_r_dupx1 hg hx hb hd h1 k
  · obtain ⟨rfl, s1, h1, k⟩ := z_one_ok h hall; exact z_r_dup2 hg hx hb hd h1 k
  · obtain ⟨rfl, s1, h1, k⟩ := z_one_ok h hall; exact z_r_pop hg hx hb hd h1 k
  · obtain ⟨rfl, s1, h1, k⟩ := z_one_ok h hall
    refine (hg _ _).mpr fun T H locs env ls stk hs => ?_
    obtain ⟨x, y, kk, rfl, g1, g2⟩ := z_iadd_ok h1 hs
    have := (hg _ _).mp k T H locs _ ls _ g2
    rw [g1] at this
    exact lv_iadd hx hb hd this
  · obtain ⟨rfl, s1, h1, k⟩ := z_one_ok h hall
    refine (hg _ _).mpr fun T H locs env ls stk hs => ?_
    obtain ⟨x, y, kk, rfl, g1, g2⟩ := z_isub_ok h1 hs
    have := (hg _ _).mp k T H locs _ ls _ g2
    rw [g1] at this
    exact lv_isub hx hb hd this
  · obtain ⟨rfl, s1, h1, k⟩ := z_one_ok h hall; exact z_r_bin hg (fun a b x y => z_mul_ok) (fun w => lv_imul hx hb hd w) h1 k
  · obtain ⟨rfl, s1, h1, k⟩ := z_one_ok h hall; exact z_r_bin0 hg (fun a b x y => z_div_ok) (fun h0 w => lv_idiv hx hb hd h0 w) h1 k
  · obtain ⟨rfl, s1, h1, k⟩ := z_one_ok h hall; exact z_r_bin0 hg (op := fun x y => x - x / y * y) (fun a b x y => z_rem_ok) (fun h0 w => lv_irem hx hb hd h0 w) h1 k
  · obtain ⟨rfl, s1, h1, k⟩ := z_one_ok h hall; exact z_r_bin hg (fun a b x y => z_and_ok) (fun w => lv_iand hx hb hd w) h1 k
  · obtain ⟨rfl, s1, h1, k⟩ := z_one_ok h hall; exact z_r_bin hg (fun a b x y => z_or_ok) (fun w => lv_ior hx hb hd w) h1 k
  · obtain ⟨rfl, s1, h1, k⟩ := z_one_ok h hall; exact z_r_bin hg (fun a b x y => z_xor_ok) (fun w => lv_ixor hx hb hd w) h1 k
  · obtain ⟨rfl, s1, h1, k⟩ := z_one_ok h hall; exact z_r_bin hg (op := fun x y => x <<< (y &&& 31)) (fun a b x y => z_shl_ok) (fun w => lv_ishl hx hb hd w) h1 k
  · obtain ⟨rfl, s1, h1, k⟩ := z_one_ok h hall; exact z_r_bin hg (op := fun x y => x >>> (y &&& 31)) (fun a b x y => z_shr_ok) (fun w => lv_ishr hx hb hd w) h1 k
  · obtain ⟨rfl, s1, h1, k⟩ := z_one_ok h hall; exact z_r_bin hg (op := fun x y => (x.toUInt32 >>> (y.toUInt32 &&& Int32.toUInt32 31)).toInt32) (fun a b x y => z_ushr_ok) (fun w => lv_iushr hx hb hd rfl w) h1 k
  · obtain ⟨rfl, s1, h1, k⟩ := z_one_ok h hall; exact z_r_un hg (op := fun x => -x) (fun a x => z_neg_ok) (fun w => lv_ineg hx hb hd w) h1 k
  · obtain ⟨rfl, s1, h1, k⟩ := z_one_ok h hall; exact z_r_un hg (op := fun x => x.toInt8.toInt32) (fun a x => z_i2b_ok) (fun w => lv_i2b hx hb hd rfl w) h1 k
  · obtain ⟨rfl, s1, h1, k⟩ := z_one_ok h hall; exact z_r_un hg (op := fun x => (x.toUInt32 % 65536).toInt32) (fun a x => z_i2c_ok) (fun w => lv_i2c hx hb hd rfl w) h1 k
  · cases hl : Nat.beq len 3 with
    | false => rw [hl] at h; cases h
    | true => rw [hl] at h; rw [z_beq hl] at hd; exact z_r_icmp hg hx hb hd h hall
  · cases hl : Nat.beq len 3 with
    | false => rw [hl] at h; cases h
    | true => rw [hl] at h; rw [z_beq hl] at hd; exact z_r_icnd hg hx hb hd h hall
  · cases hl : Nat.beq len 3 with
    | false => rw [hl] at h; cases h
    | true =>
      rw [hl] at h; rw [z_beq hl] at hd
      rename_i off
      cases ht : z_to pc off with
      | none => rw [ht] at h; cases h
      | some t => rw [ht] at h; cases h; exact z_r_goto hg hx hb hd ht (hall _ (List.mem_singleton.mpr rfl))
  · exact z_r_tsw hg hx hb hd h hall
  · exact z_r_lsw hg hx hb hd h hall
  · obtain ⟨rfl, s1, h1, k⟩ := z_one_ok h hall; exact z_r_getf hg hx hb hKS.1 hD hd h1 k
  · obtain ⟨hp0, h⟩ := hpu h
    obtain ⟨rfl, s1, h1, k⟩ := z_one_ok h hall; exact z_r_putf hp0 hg hx hb hKS.1 hD hini hd h1 k
  · obtain ⟨rfl, s1, h1, k⟩ := z_one_ok h hall; exact z_r_iald hg hx hb hD hd h1 k
  · obtain ⟨rfl, s1, h1, k⟩ := z_one_ok h hall; exact z_r_bald hg hx hb hD hd h1 k
  · obtain ⟨rfl, s1, h1, k⟩ := z_one_ok h hall; exact z_r_lald hg hx hb hD hd h1 k
  · obtain ⟨hp0, h⟩ := hpu h
    obtain ⟨rfl, s1, h1, k⟩ := z_one_ok h hall; exact z_r_iast hp0 hg hx hb hD hd h1 k
  · obtain ⟨hp0, h⟩ := hpu h
    obtain ⟨rfl, s1, h1, k⟩ := z_one_ok h hall; exact z_r_bast hp0 hg hx hb hD hd h1 k
  · obtain ⟨hp0, h⟩ := hpu h
    obtain ⟨rfl, s1, h1, k⟩ := z_one_ok h hall; exact z_r_last hp0 hg hx hb hD hd h1 k
  · obtain ⟨rfl, s1, h1, k⟩ := z_one_ok h hall; exact z_r_alen hg hx hb hD hd h1 k
  · obtain ⟨hp0, h⟩ := hpu h
    obtain ⟨rfl, s1, h1, k⟩ := z_one_ok h hall
    split at h1
    · rename_i ek q he hq
      exact z_r_nwa hp0 hg hx hb hD hKS.2.2.2.2.1 hsz he hd h1 k
    · cases h1
  · obtain ⟨hp0, h⟩ := hpu h
    obtain ⟨rfl, s1, h1, k⟩ := z_one_ok h hall; exact z_r_new hp0 hg hx hb hKS.1 hD hKS.2.1 hsz hd h1 k
  · obtain ⟨rfl, s1, h1, k⟩ := z_one_ok h hall; exact z_r_lconst hg hx hb hd h1 k
  · obtain ⟨rfl, s1, h1, k⟩ := z_one_ok h hall; exact z_r_lshl hg hx hb hd h1 k
  · obtain ⟨rfl, s1, h1, k⟩ := z_one_ok h hall; exact z_r_lor hg hx hb hd h1 k
  · obtain ⟨rfl, s1, h1, k⟩ := z_one_ok h hall; exact z_r_lcmp hg hx hb hd h1 k
  · obtain ⟨rfl, L', h1, k⟩ := z_all_ok h hall
    exact z_calls_ok hg hx hb hml hD hsz hXp hX hKS hok (fun k hk => by rw [z_beq hk]; exact ⟨by omega, rfl⟩) hd h1 k
  · rename_i i
    cases hq : (k_LK K).any (fun q => Nat.beq q.1 i && Nat.beq q.2.1 8) with
    | true =>
      rw [hq] at h
      obtain ⟨hp0, h⟩ := hpu h
      obtain ⟨rfl, s1, h1, k⟩ := z_one_ok h hall
      obtain ⟨q, hm, hp⟩ := List.any_eq_true.mp hq
      rw [Bool.and_eq_true] at hp
      have hi : q.1 = i := z_beq hp.1
      obtain ⟨w1, w2, w3, w4⟩ := (hKS.2.2.1 q hm).2.1 (z_beq hp.2)
      rw [hi] at w1
      exact z_r_acp hp0 hg hx hb hml hD w1 w2 w3 w4 hd h1 k
    | false =>
      rw [hq] at h
      obtain ⟨rfl, L', h1, k⟩ := z_all_ok h hall
      refine z_calls_ok hg hx hb hml hD hsz hXp hX hKS hok (fun k hk => ?_) hd h1 k
      rw [Bool.or_eq_true] at hk
      rcases hk with hk | hk <;> rw [z_beq hk] <;> exact ⟨by omega, rfl⟩
  · split at h
    · rename_i s1 h1
      obtain ⟨rfl, s2, h2, k⟩ := z_one_ok h hall
      cases h2
      exact z_r_obi hg hx hb hml hD.1 hD.2.1 hKS hd h1 k
    · obtain ⟨rfl, L', h1, k⟩ := z_all_ok h hall
      refine z_calls_ok hg hx hb hml hD hsz hXp hX hKS hok (fun k hk => ?_) hd h1 k
      rw [Bool.or_eq_true] at hk
      rcases hk with hk | hk <;> rw [z_beq hk] <;> exact ⟨by omega, rfl⟩
  · cases h
end ZSTEP2
end
section
/-! Acts ahead of a place; cut points, with ranks that fall. -/
def z_spl (st : zS) (d : Nat) (t : Int) : Option (List zS) := match z_get (z_V st) d with
  | some (.inl r) => some (cond (z_ile r.1 t) [z_mor st (z_S st) [(d, .inl (r.1, z_min r.2 t))] []] [] ++ cond (z_ile (t + 1) r.2) [z_mor st (z_S st) [(d, .inl (z_max r.1 (t + 1), r.2))] []] [])
  | _ => none
/-- a value is bound by another one's bound -/
def z_tig (st : zS) (d e : Nat) : Option (List zS) := match z_get (z_V st) d, z_get (z_V st) e, z_lbs (z_R st) 6 e d with
  | some (.inl r), some (.inl q), some k => some [z_mor st (z_S st) [(d, .inl (r.1, z_min r.2 (q.2 - k)))] []]
  | _, _, _ => none
def z_act (TY : List zTy) (PHI : List (List Nat)) (cl : List vw_C) (PHS : List Nat) (pu : Bool) (q : Nat × Nat × Int) (st : zS) : Option (List zS) := match q.1 with
  | 0 => cond pu none (match TY[q.2.1]? with
    | some (.inl o) => (match cl[o.1]? with
      | some r => cond (Nat.beq o.2.length r.2.2) ((z_pub TY st 0 q.2.1).map (fun s => [s])) none
      | none => none)
    | _ => none)
  | 1 => cond (pu || !(PHS.any (fun x => Nat.beq x q.2.1))) none (cond (Nat.beq (z_ph st) q.2.1) (some [st]) ((z_rty PHI st q.2.1).map (fun s => [s])))
  | 2 => (match z_loc (z_L st) q.2.1 with
    | some d => z_spl st d q.2.2
    | none => none)
  | 4 => (match z_loc (z_L st) q.2.1, z_loc (z_L st) q.2.2.toNat with
    | some d, some e => z_tig st d e
    | _, _ => none)
  | _ => (match (z_S st)[q.2.1]? with
    | some d => z_spl st d q.2.2
    | none => none)
def z_fmp {α : Type} (f : zS → Option (List α)) : List zS → Option (List α)
  | [] => some []
  | s :: L => match f s, z_fmp f L with
    | some a, some b => some (a ++ b)
    | _, _ => none
def z_acts (TY : List zTy) (PHI : List (List Nat)) (cl : List vw_C) (PHS : List Nat) (pu : Bool) : List (Nat × Nat × Nat × Int) → Nat → zS → Option (List zS)
  | [], _, st => some [st]
  | q :: r, pc, st => cond (Nat.beq q.1 pc) (match z_act TY PHI cl PHS pu q.2 st with
    | some L => z_fmp (z_acts TY PHI cl PHS pu r pc) L
    | none => none) (z_acts TY PHI cl PHS pu r pc st)
/-- a step with its acts; finV, finI: the ends -/
def z_stp (TY : List zTy) (PHI : List (List Nat)) (cl : List vw_C) (FT : Nat → Nat → FieldType) (MT : List zM) (SG : List (Nat × zSig)) (RO PHS : List Nat) (R : Room) (pu : Bool) (nL : Nat) (K : zK) (cc : ByteArray) (finV finI : zS → Bool) (pc : Nat) (st : zS) : Option (List (Nat × zS)) :=
  match z_acts TY PHI cl PHS pu (k_AC K) pc st with
  | some L => (match decode cc pc with
    | .ok (.return_, len) => cond (Nat.beq len 1 && L.all finV) (some []) none
    | .ok (.ireturn, len) => cond (Nat.beq len 1 && L.all finI) (some []) none
    | .ok (ins, len) => z_fmp (z_step TY PHI cl FT MT SG RO R pu nL K pc ins len) L
    | .error _ => none)
  | none => none
def z_run (stp : Nat → zS → Option (List (Nat × zS))) (cut : Nat → zS → Bool) : Nat → Nat → zS → Bool
  | 0, _, _ => false
  | f + 1, pc, st => match stp pc st with
    | some L => L.all (fun q => cut q.1 q.2 || z_run stp cut f q.1 q.2)
    | none => false
abbrev zLo : Type := Nat × Nat × Nat × Nat
abbrev zLin : Type := Int × List (Nat × Int)
abbrev zCu : Type := Nat × zS × List zLo × zLin
def z_sg1 (cur : zS) (acc : List Nat) (q : zLo) : Option Nat := match q.1 with
  | 0 => some q.2.1
  | 1 => z_loc (z_L cur) q.2.1
  | 2 => (z_S cur)[q.2.1]?
  | 3 => (match acc[q.2.1]? with
    | some a => z_ffind cur a q.2.2.1 q.2.2.2
    | none => none)
  | 4 => (match acc[q.2.1]?, acc[q.2.2.1]? with
    | some a, some j => z_efind cur a j
    | _, _ => none)
  | _ => ((z_V cur).find? (fun e => match e.2 with
    | .inl r => z_ile (q.2.1 : Int) r.1 && z_ile r.2 (q.2.1 : Int)
    | _ => false)).map (fun e => e.1)
def z_sgm (cur : zS) : List zLo → List Nat → Option (List Nat)
  | [], acc => some acc
  | q :: r, acc => match z_sg1 cur acc q with
    | some i => z_sgm cur r (acc ++ [i])
    | none => none
def z_seq (sg : List Nat) : List Nat → List Nat → Bool
  | [], [] => true
  | t :: L, i :: M => (match sg[t]? with
    | some j => Nat.beq j i
    | none => false) && z_seq sg L M
  | _, _ => false
def z_sub2 (cur tgt : zS) (sg : List Nat) : Bool :=
  Nat.beq sg.length (z_n tgt) && sg.all (fun i => Nat.blt i (z_n cur)) && (z_L tgt).all (fun q => match z_loc (z_L cur) q.1, sg[q.2]? with
    | some d, some i => Nat.beq d i
    | _, _ => false) && z_seq sg (z_S tgt) (z_S cur) && (z_V tgt).all (fun q => match sg[q.1]? with
    | some i => (match z_get (z_V cur) i with
      | some c => z_le c q.2
      | none => false)
    | none => false) && (z_F tgt).all (fun q => match sg[q.1]?, sg[q.2.2.2]?, cur with
    | some a, some v, cur => (match z_ffind cur a q.2.1 q.2.2.1 with
      | some w => Nat.beq w v && (z_F cur).any (fun f => Nat.beq f.1 a && Nat.beq f.2.1 q.2.1 && Nat.beq f.2.2.1 q.2.2.1 && Nat.beq f.2.2.2 v)
      | none => false)
    | _, _, _ => false) && (z_E tgt).all (fun q => match sg[q.1]?, sg[q.2.1]?, sg[q.2.2]? with
    | some a, some j, some v => z_isi cur j && (match z_efind cur a j with
      | some w => Nat.beq w v
      | none => false)
    | _, _, _ => false) && (z_R tgt).all (fun q => match sg[q.1]?, sg[q.2.1]? with
    | some b, some a => z_isi cur b && z_isi cur a && z_kx (z_R cur) b a q.2.2
    | _, _ => false) && (z_X tgt).isEmpty && Nat.ble (z_C cur).1 (z_C tgt).1 && Nat.ble (z_C cur).2 (z_C tgt).2 && Nat.beq (z_ph cur) (z_ph tgt)
def z_pick (st : zS) (x : Nat) (a : Int) : List (Nat × Int) → Option (Int × List (Nat × Int))
  | [] => none
  | q :: r => match (cond (z_ile q.2 (-a) && z_ile (-a) q.2 && z_isi st q.1) (cond (z_ile 0 a) (z_lbs (z_R st) 2 x q.1) (z_lbs (z_R st) 2 q.1 x)) none) with
    | some k => some (cond (z_ile 0 a) (a * k) (-a * k), r)
    | none => (match z_pick st x a r with
      | some w => some (w.1, q :: w.2)
      | none => none)
def z_lw (st : zS) : Nat → List (Nat × Int) → Option Int
  | _, [] => some 0
  | 0, _ :: _ => none
  | f + 1, q :: r => match z_get (z_V st) q.1 with
    | some (.inl v) => (match z_pick st q.1 q.2 r with
      | some w => (match z_lw st f w.2 with
        | some b => some (b + w.1)
        | none => none)
      | none => (match z_lw st f r with
        | some b => some (b + cond (z_ile 0 q.2) (q.2 * v.1) (q.2 * v.2))
        | none => none))
    | _ => none
def z_mapt (sg : List Nat) : List (Nat × Int) → Option (List (Nat × Int))
  | [] => some []
  | q :: r => match sg[q.1]?, z_mapt sg r with
    | some i, some L => some ((i, q.2) :: L)
    | _, _ => none
def z_rnk (cur : zS) (sg : List Nat) (src : Option zLin) (tgt : zLin) : Bool := match z_mapt sg tgt.2 with
  | some t => (match z_lw cur 12 t with
      | some b => z_ile 0 (tgt.1 + b)
      | none => false) && (match src with
      | none => true
      | some s => (match z_lw cur 12 (s.2 ++ t.map (fun q => (q.1, -q.2))) with
        | some b => z_ile 1 (s.1 - tgt.1 + b)
        | none => false))
  | none => false
def z_cut (CU : List zCu) (ng : Nat) (src : Option zLin) (pc : Nat) (cur : zS) : Bool := CU.any (fun k => Nat.beq k.1 pc && (match z_sgm cur k.2.2.1 [] with
  | some sg => z_sub2 cur k.2.1 sg && (List.range ng).all (fun i => match sg[i]? with
      | some j => Nat.beq j i
      | none => false) && z_rnk cur sg src k.2.2.2
  | none => false))
/-- the value of a linear form -/
def z_iv (env : List Value) (x : Nat) : Int := match env[x]? with
  | some (.int v) => v.toInt
  | _ => 0
def z_ev (env : List Value) : List (Nat × Int) → Int
  | [] => 0
  | q :: r => q.2 * z_iv env q.1 + z_ev env r
section ZCUTS
variable {OB : Nat → Nat} {D : va_G} {DA : Nat → ClassId} {cl : List vw_C} {FT : Nat → Nat → FieldType} {TY : List zTy} {PHI : List (List Nat)} {sz : Nat} {raw : Option Nat} {pu : Bool} {T0 : zTp} {H0 : Heap} {env0 : List Value} {nL : Nat} {st st' : zS} {T : zTp} {H : Heap} {locs : List Loc} {env : List Value} {ls : Array Slot} {stk : List Value} {good : Nat → zS → Prop}
theorem z_iv_int {x : Nat} {v : Int32} (h : env[x]? = some (.int v)) : z_iv env x = v.toInt := by unfold z_iv; rw [h]
theorem z_ile_not {a b : Int} (h : z_ile a b = false) : b < a := Int.not_le.mp (of_decide_eq_false h)
theorem z_pick_ok (hs : z_sat OB D DA cl TY PHI sz raw pu T0 H0 env0 nL st T H locs env ls stk) {x : Nat} {vx : Int32} (hx : env[x]? = some (.int vx)) {a : Int} : ∀ {L : List (Nat × Int)} {w : Int × List (Nat × Int)}, z_pick st x a L = some w → w.1 + z_ev env w.2 ≤ a * z_iv env x + z_ev env L
  | [], w, h => by cases h
  | q :: r, w, h => by
    unfold z_pick at h
    have hr := hs.2.2.2.2.2.2.2.1
    split at h
    · rename_i k hk
      cases h
      cases hc : (z_ile q.2 (-a) && z_ile (-a) q.2 && z_isi st q.1) with
      | false => rw [hc] at hk; cases hk
      | true =>
        rw [hc] at hk
        simp only [Bool.and_eq_true] at hc
        obtain ⟨vy, hy⟩ := z_isi_ok hc.2 hs
        have l1 := z_ile_ok hc.1.1
        have l2 := z_ile_ok hc.1.2
        have hq : q.2 = -a := by omega
        show cond (z_ile 0 a) (a * k) (-a * k) + z_ev env r ≤ a * z_iv env x + (q.2 * z_iv env q.1 + z_ev env r)
        rw [z_iv_int hx, z_iv_int hy, hq]
        cases ha : z_ile 0 a with
        | true =>
          rw [ha] at hk
          obtain ⟨v2, e1, e2⟩ := z_lbs_ok hr hk hx
          rw [hy] at e1
          cases e1
          have := Int.mul_le_mul_of_nonneg_left (show k ≤ vx.toInt - vy.toInt by omega) (z_ile_ok ha)
          rw [Int.mul_sub] at this
          show a * k + z_ev env r ≤ _
          rw [Int.neg_mul]
          omega
        | false =>
          rw [ha] at hk
          obtain ⟨v2, e1, e2⟩ := z_lbs_ok hr hk hy
          rw [hx] at e1
          cases e1
          have han := z_ile_not ha
          have := Int.mul_le_mul_of_nonneg_left (show k ≤ vy.toInt - vx.toInt by omega) (show 0 ≤ -a by omega)
          rw [Int.mul_sub] at this
          show -a * k + z_ev env r ≤ _
          simp only [Int.neg_mul] at this ⊢
          omega
    · split at h
      · rename_i w2 hw2
        cases h
        have ih := z_pick_ok hs hx hw2
        show w2.1 + (q.2 * z_iv env q.1 + z_ev env w2.2) ≤ a * z_iv env x + (q.2 * z_iv env q.1 + z_ev env r)
        omega
      · cases h
theorem z_lw_ok (hs : z_sat OB D DA cl TY PHI sz raw pu T0 H0 env0 nL st T H locs env ls stk) : ∀ {f : Nat} {L : List (Nat × Int)} {b : Int}, z_lw st f L = some b → b ≤ z_ev env L
  | f, [], b, h => by
    unfold z_lw at h
    cases h
    exact Int.le_refl _
  | 0, q :: r, b, h => by cases h
  | f + 1, q :: r, b, h => by
    unfold z_lw at h
    split at h
    · rename_i v hv
      obtain ⟨w, e1, x, rfl, hx⟩ := z_get_ok hs.2.2.2.2.1 hv
      split at h
      · rename_i w2 hw2
        have hp := z_pick_ok hs e1 hw2
        split at h
        · rename_i b2 hb2
          cases h
          have ih := z_lw_ok hs hb2
          show b2 + w2.1 ≤ q.2 * z_iv env q.1 + z_ev env r
          omega
        · cases h
      · split at h
        · rename_i b2 hb2
          cases h
          have ih := z_lw_ok hs hb2
          show b2 + cond (z_ile 0 q.2) (q.2 * v.1) (q.2 * v.2) ≤ q.2 * z_iv env q.1 + z_ev env r
          rw [z_iv_int e1]
          cases ha : z_ile 0 q.2 with
          | true =>
            have := Int.mul_le_mul_of_nonneg_left hx.1 (z_ile_ok ha)
            show b2 + q.2 * v.1 ≤ _
            omega
          | false =>
            have := Int.mul_le_mul_of_nonpos_left (show q.2 ≤ 0 by have := z_ile_not ha; omega) hx.2
            show b2 + q.2 * v.2 ≤ _
            omega
        · cases h
    · cases h
theorem z_ev_app {A B : List (Nat × Int)} : z_ev env (A ++ B) = z_ev env A + z_ev env B := by
  induction A with
  | nil => simp [z_ev]
  | cons q A ih =>
    show q.2 * z_iv env q.1 + z_ev env (A ++ B) = q.2 * z_iv env q.1 + z_ev env A + z_ev env B
    rw [ih]; omega
theorem z_ev_neg {A : List (Nat × Int)} : z_ev env (A.map (fun q => (q.1, -q.2))) = - z_ev env A := by
  induction A with
  | nil => simp [z_ev]
  | cons q A ih =>
    show -q.2 * z_iv env q.1 + z_ev env (A.map (fun q => (q.1, -q.2))) = -(q.2 * z_iv env q.1 + z_ev env A)
    rw [ih, Int.neg_mul]; omega
theorem z_ev_map {sg : List Nat} {env' : List Value} (he : ∀ (t i : Nat), sg[t]? = some i → env'[t]? = env[i]?) : ∀ {A B : List (Nat × Int)}, z_mapt sg A = some B → z_ev env' A = z_ev env B
  | [], B, h => by cases h; rfl
  | q :: A, B, h => by
    unfold z_mapt at h
    split at h
    · rename_i i L hi hL
      cases h
      have ih := z_ev_map he hL
      show q.2 * z_iv env' q.1 + z_ev env' A = q.2 * z_iv env i + z_ev env L
      rw [ih]
      unfold z_iv
      rw [he _ _ hi]
    · cases h
theorem z_ev_pre {w : List Value} : ∀ {A : List (Nat × Int)}, (A.all (fun q => Nat.blt q.1 env.length)) = true → z_ev (env ++ w) A = z_ev env A
  | [], _ => rfl
  | q :: A, h => by
    rw [List.all_cons, Bool.and_eq_true] at h
    have ih := z_ev_pre (w := w) h.2
    show q.2 * z_iv (env ++ w) q.1 + z_ev (env ++ w) A = q.2 * z_iv env q.1 + z_ev env A
    rw [ih]
    unfold z_iv
    rw [List.getElem?_append_left (z_blt h.1)]
theorem z_seq_ok {sg : List Nat} {env' : List Value} (he : ∀ (t i : Nat), sg[t]? = some i → env'[t]? = env[i]?) : ∀ {A B : List Nat} {k : List Value}, z_seq sg A B = true → z_stk env B k → z_stk env' A k
  | [], [], k, _, h => h
  | [], _ :: _, k, h, _ => by cases h
  | _ :: _, [], k, h, _ => by cases h
  | t :: A, i :: B, k, h, ⟨v, k', e1, e2, e3⟩ => by
    unfold z_seq at h
    rw [Bool.and_eq_true] at h
    obtain ⟨h1, h2⟩ := h
    split at h1
    · rename_i j hj
      exact ⟨v, k', e1, by rw [he _ _ hj, z_beq h1]; exact e2, z_seq_ok he h2 e3⟩
    · cases h1
/-- the state of a cut point holds, with its own names -/
theorem z_sub2_ok {tgt : zS} {sg : List Nat} (h : z_sub2 st tgt sg = true) (hs : z_sat OB D DA cl TY PHI sz raw pu T0 H0 env0 nL st T H locs env ls stk) :
    (z_C st).1 ≤ (z_C tgt).1 ∧ (z_C st).2 ≤ (z_C tgt).2 ∧ ∃ env' : List Value, (∀ (t i : Nat), sg[t]? = some i → env'[t]? = env[i]?) ∧ z_sat OB D DA cl TY PHI sz raw pu T0 H0 env' nL tgt T H locs env' ls stk := by
  unfold z_sub2 at h
  simp only [Bool.and_eq_true] at h
  obtain ⟨⟨⟨⟨⟨⟨⟨⟨⟨⟨⟨a1, a2⟩, a3⟩, a4⟩, a5⟩, a6⟩, a7⟩, a8⟩, a9⟩, a10⟩, a11⟩, a12⟩ := h
  refine ⟨Nat.le_of_ble_eq_true a10, Nat.le_of_ble_eq_true a11, sg.map (fun i => env.getD i (.int 0)), ?_⟩
  have he : ∀ (t i : Nat), sg[t]? = some i → (sg.map (fun i => env.getD i (.int 0)))[t]? = env[i]? := by
    intro t i hi
    have hlt := z_blt (List.all_eq_true.mp a2 i (List.mem_of_getElem? hi))
    rw [← hs.1] at hlt
    rw [List.getElem?_map, hi, List.getElem?_eq_getElem hlt]
    simp [hlt]
  refine ⟨he, by rw [List.length_map]; exact z_beq a1, ⟨[], by rw [List.append_nil]⟩, ?_, z_seq_ok he a4 hs.2.2.2.1, fun q hq => ?_, fun q hq => ?_, fun q hq => ?_, fun q hq => ?_, ?_, ?_⟩
  · obtain ⟨lv, g1, g2, g3⟩ := hs.2.2.1
    refine ⟨lv, g1, g2, fun q hq => ?_⟩
    have h1 := List.all_eq_true.mp a3 q hq
    split at h1
    · rename_i d i hd hi
      obtain ⟨v, e1, e2⟩ := g3 _ (z_loc_mem hd)
      exact ⟨v, by rw [he _ _ hi, ← z_beq h1]; exact e1, e2⟩
    · cases h1
  · have h1 := List.all_eq_true.mp a5 q hq
    split at h1
    · rename_i i hi
      split at h1
      · rename_i c0 hc0
        obtain ⟨v, e1, e2⟩ := z_get_ok hs.2.2.2.2.1 hc0
        exact ⟨v, by rw [he _ _ hi]; exact e1, z_le_ok h1 e2⟩
      · cases h1
    · cases h1
  · have h1 := List.all_eq_true.mp a6 q hq
    split at h1
    · rename_i a v cur hia hiv
      split at h1
      · rename_i w hw
        rw [Bool.and_eq_true] at h1
        obtain ⟨f, hf, hf2⟩ := List.any_eq_true.mp h1.2
        simp only [Bool.and_eq_true] at hf2
        obtain ⟨ad, x, r, e1, e2, e3, e4, e5⟩ := hs.2.2.2.2.2.1 f hf
        rw [z_beq hf2.1.1.1] at e1
        rw [z_beq hf2.2] at e2
        rw [z_beq hf2.1.1.2] at e3 e5
        rw [z_beq hf2.1.2] at e4 e5
        exact ⟨ad, x, r, by rw [he _ _ hia]; exact e1, by rw [he _ _ hiv]; exact e2, e3, e4, e5⟩
      · cases h1
    · cases h1
  · have h1 := List.all_eq_true.mp a7 q hq
    split at h1
    · rename_i a j v hia hij hiv
      rw [Bool.and_eq_true] at h1
      obtain ⟨y, hy⟩ := z_isi_ok h1.1 hs
      have h2 := h1.2
      split at h2
      · rename_i w hw
        obtain ⟨ad, x, e1, e2, e3, e4⟩ := z_efind_ok hw hs hy
        rw [z_beq h2] at e2
        exact ⟨ad, y, x, by rw [he _ _ hia]; exact e1, by rw [he _ _ hij]; exact hy, e3, by rw [he _ _ hiv]; exact e2, e4⟩
      · cases h2
    · cases h1
  · have h1 := List.all_eq_true.mp a8 q hq
    split at h1
    · rename_i b a hib hia
      obtain ⟨vx, vy, e1, e2, e3⟩ := z_kn_int h1 hs
      exact ⟨vy, vx, by rw [he _ _ hib]; exact e1, by rw [he _ _ hia]; exact e2, e3⟩
    · cases h1
  · have : z_X tgt = [] := List.isEmpty_iff.mp a9
    show z_fx D cl T sz H0.size raw H _ (z_X tgt)
    rw [this]
    trivial
  · have := hs.2.2.2.2.2.2.2.2.2
    rw [z_beq a12] at this
    exact this
end ZCUTS
end
section
/-! A method by its certificate. -/
abbrev zCe : Type := zK × List zCu × Nat
def z_room (g : zSig) : Room := { frames := (g_rm g).1, cells := (g_mk g).1, slots := (g_mk g).2, locals := (g_rm g).2 }
def z_finV (TY : List zTy) (cl : List vw_C) (g : zSig) (ws : List Nat) (ret : Option FieldType) (st : zS) : Bool := (z_S st).isEmpty && ret.isNone && z_ret TY cl g ws st none
def z_chk (TY : List zTy) (PHI : List (List Nat)) (cl : List vw_C) (FT : Nat → Nat → FieldType) (MT : List zM) (SG : List (Nat × zSig)) (RO PHS : List Nat) (mm : zM) (g : zSig) (ce : zCe) : Bool := match z_ent TY cl FT mm.2.2.1 g with
  | some (st0, ws) => z_run (z_stp TY PHI cl FT MT SG RO PHS (z_room g) (g_pur g) mm.2.2.1 ce.1 mm.2.1 (z_finV TY cl g ws mm.2.2.2.1) (z_iret TY cl g ws mm.2.2.2.1)) (z_cut ce.2.1 (z_n st0) none) ce.2.2 0 st0 &&
    ce.2.1.all (fun k => k.2.2.2.2.all (fun q => Nat.blt q.1 (z_n k.2.1)) && z_run (z_stp TY PHI cl FT MT SG RO PHS (z_room g) (g_pur g) mm.2.2.1 ce.1 mm.2.1 (z_finV TY cl g ws mm.2.2.2.1) (z_iret TY cl g ws mm.2.2.2.1)) (z_cut ce.2.1 (z_n st0) (some k.2.2.2)) ce.2.2 k.1 k.2.1)
  | none => false
section ZMETHOD
variable {p : Program} {l : Launch} {e : Env} {R : Room} {s : State} {m : MethodId} {args : Array Value} {below : List Frame} {meth : Method} {c : Code} {Q : State → Prop} {cc : ByteArray} {pc : Nat}
variable {OB : Nat → Nat} {D : va_G} {DA : Nat → ClassId} {cl : List vw_C} {FT : Nat → Nat → FieldType} {TY : List zTy} {PHI : List (List Nat)} {sz : Nat} {raw : Option Nat} {pu : Bool} {T0 : zTp} {H0 : Heap} {env0 : List Value} {nL : Nat} {st st' : zS} {KXf : (Nat → Nat) → Nat → State → Heap → Prop} {good : Nat → zS → Prop}
variable {Ts TBL : List Cond} {own : String} {MT : List zM} {SG : List (Nat × zSig)} {RO PHS : List Nat} {K : zK}
theorem z_spl_ok (hg : z_Good p l e R s m args below meth c Q OB D DA cl TY PHI sz raw pu T0 H0 env0 nL good) {d : Nat} {t : Int} {L : List zS} (h : z_spl st d t = some L) (hall : ∀ s ∈ L, good pc s) : good pc st := by
  refine (hg _ _).mpr fun T H locs env ls stk hs => ?_
  unfold z_spl at h
  split at h
  · rename_i r hr
    cases h
    obtain ⟨v, e1, x, rfl, hx⟩ := z_get_ok hs.2.2.2.2.1 hr
    have fin : ∀ r2 : zR, z_in r2 x → z_mor st (z_S st) [(d, .inl r2)] [] ∈ (cond (z_ile r.1 t) [z_mor st (z_S st) [(d, .inl (r.1, z_min r.2 t))] []] [] ++ cond (z_ile (t + 1) r.2) [z_mor st (z_S st) [(d, .inl (z_max r.1 (t + 1), r.2))] []] []) → W p l e R s m args below meth c H locs (z_C st).1 (z_C st).2 Q (F0 m pc ls stk) := by
      intro r2 h2 hm
      refine (hg _ _).mp (hall _ hm) T H locs env ls stk (z_sat_mor hs hs.2.2.2.1 (fun q hq => ?_) (fun q hq => absurd hq List.not_mem_nil))
      rw [List.mem_singleton.mp hq]; exact ⟨_, e1, z_vi h2⟩
    rcases Int.lt_or_le t x.toInt with q | q
    · refine fin (z_max r.1 (t + 1), r.2) ⟨z_max_le hx.1 (by omega), hx.2⟩ ?_
      have : z_ile (t + 1) r.2 = true := decide_eq_true (by have := hx.2; omega)
      rw [this]
      exact List.mem_append_right _ (List.mem_singleton.mpr rfl)
    · refine fin (r.1, z_min r.2 t) ⟨hx.1, z_min_ge hx.2 q⟩ ?_
      have : z_ile r.1 t = true := decide_eq_true (by have := hx.1; omega)
      rw [this]
      exact List.mem_append_left _ (List.mem_singleton.mpr rfl)
  · cases h
theorem z_tig_ok (hg : z_Good p l e R s m args below meth c Q OB D DA cl TY PHI sz raw pu T0 H0 env0 nL good) {d f : Nat} {L : List zS} (h : z_tig st d f = some L) (hall : ∀ s ∈ L, good pc s) : good pc st := by
  refine (hg _ _).mpr fun T H locs env ls stk hs => ?_
  unfold z_tig at h
  split at h
  · rename_i r q k hr hq hk
    cases h
    obtain ⟨v, e1, x, rfl, hx⟩ := z_get_ok hs.2.2.2.2.1 hr
    obtain ⟨w, e2, y, rfl, hy⟩ := z_get_ok hs.2.2.2.2.1 hq
    obtain ⟨vx, g1, g2⟩ := z_lbs_ok hs.2.2.2.2.2.2.2.1 hk e2
    rw [e1] at g1
    cases g1
    refine (hg _ _).mp (hall _ (List.mem_singleton.mpr rfl)) T H locs env ls stk (z_sat_mor hs hs.2.2.2.1 (fun q2 hq2 => ?_) (fun q2 hq2 => absurd hq2 List.not_mem_nil))
    rw [List.mem_singleton.mp hq2]
    exact ⟨_, e1, z_vi ⟨hx.1, z_min_ge hx.2 (by have := hy.2; omega)⟩⟩
  · cases h
theorem z_act_ok (hg : z_Good p l e R s m args below meth c Q OB D DA cl TY PHI sz raw pu T0 H0 env0 nL good) (hPH : ∀ a ∈ PHS, z_phok TY PHI a = true) {q : Nat × Nat × Int} {L : List zS} (h : z_act TY PHI cl PHS pu q st = some L) (hall : ∀ s ∈ L, good pc s) : good pc st := by
  unfold z_act at h
  split at h
  · cases hp : pu with
    | true => rw [hp] at h; cases h
    | false =>
      rw [hp] at h
      have h : (match TY[q.2.1]? with
        | some (.inl o) => (match cl[o.1]? with
          | some r => cond (Nat.beq o.2.length r.2.2) ((z_pub TY st 0 q.2.1).map (fun s => [s])) none
          | none => none)
        | _ => none) = some L := h
      split at h
      · rename_i o ho
        split at h
        · rename_i r hr
          cases hb : Nat.beq o.2.length r.2.2 with
          | false => rw [hb] at h; cases h
          | true =>
            rw [hb] at h
            cases hz : z_pub TY st 0 q.2.1 with
            | none => rw [hz] at h; cases h
            | some s1 =>
              rw [hz] at h
              cases h
              refine z_pub_ok hp hg (fun ci fl h1 r2 h2 => ?_) hz (hall _ (List.mem_singleton.mpr rfl))
              rw [ho] at h1
              cases h1
              rw [hr] at h2
              cases h2
              exact z_beq hb
        · cases h
      · cases h
  · cases hp : (pu || !(PHS.any (fun x => Nat.beq x q.2.1))) with
    | true => rw [hp] at h; cases h
    | false =>
      rw [hp] at h
      rw [Bool.or_eq_false_iff] at hp
      obtain ⟨p1, p2⟩ := hp
      have p3 : PHS.any (fun x => Nat.beq x q.2.1) = true := by simpa using p2
      obtain ⟨a, ha, ha2⟩ := List.any_eq_true.mp p3
      have hph := hPH a ha
      rw [z_beq ha2] at hph
      cases hnb : Nat.beq (z_ph st) q.2.1 with
      | true =>
        rw [hnb] at h
        cases h
        exact hall _ (List.mem_singleton.mpr rfl)
      | false =>
        rw [hnb] at h
        cases hz : z_rty PHI st q.2.1 with
        | none => rw [hz] at h; cases h
        | some s1 =>
          rw [hz] at h
          cases h
          exact z_rty_ok p1 hg hph hz (hall _ (List.mem_singleton.mpr rfl))
  · split at h
    · exact z_spl_ok hg h hall
    · cases h
  · split at h
    · exact z_tig_ok hg h hall
    · cases h
  · split at h
    · exact z_spl_ok hg h hall
    · cases h
theorem z_fmp_ok {α : Type} {f : zS → Option (List α)} : ∀ {L : List zS} {r : List α}, z_fmp f L = some r → ∀ s ∈ L, ∃ a, f s = some a ∧ ∀ x ∈ a, x ∈ r
  | [], _, _, s, hs => absurd hs List.not_mem_nil
  | x :: L, r, h, s, hs => by
    unfold z_fmp at h
    split at h
    · rename_i a b ha hb
      cases h
      rcases List.mem_cons.mp hs with rfl | hs
      · exact ⟨a, ha, fun y hy => List.mem_append_left _ hy⟩
      · obtain ⟨a2, h1, h2⟩ := z_fmp_ok hb s hs
        exact ⟨a2, h1, fun y hy => List.mem_append_right _ (h2 y hy)⟩
    · cases h
theorem z_acts_ok (hg : z_Good p l e R s m args below meth c Q OB D DA cl TY PHI sz raw pu T0 H0 env0 nL good) (hPH : ∀ a ∈ PHS, z_phok TY PHI a = true) : ∀ {A : List (Nat × Nat × Nat × Int)} {st : zS} {L : List zS}, z_acts TY PHI cl PHS pu A pc st = some L → (∀ s ∈ L, good pc s) → good pc st
  | [], st, L, h, hall => by
    cases h
    exact hall _ (List.mem_singleton.mpr rfl)
  | q :: r, st, L, h, hall => by
    unfold z_acts at h
    cases hb : Nat.beq q.1 pc with
    | false => rw [hb] at h; exact z_acts_ok hg hPH h hall
    | true =>
      rw [hb] at h
      have h : (match z_act TY PHI cl PHS pu q.2 st with
        | some L => z_fmp (z_acts TY PHI cl PHS pu r pc) L
        | none => none) = some L := h
      split at h
      · rename_i L1 h1
        refine z_act_ok hg hPH h1 (fun s1 hs1 => ?_)
        obtain ⟨a, k1, k2⟩ := z_fmp_ok h s1 hs1
        exact z_acts_ok hg hPH k1 (fun x hx => hall x (k2 x hx))
      · cases h
theorem z_stp_ok (hg : z_Good p l e R s m args below meth c Q OB D DA cl TY PHI sz raw pu T0 H0 env0 nL good) (hx : p.tables.exec = Jvm.exec) (hb : c.code = cc) (hml : c.maxLocals = nL) (hD : z_Dy s m args Ts own D cl DA (z_tys DA)) (hsz : sz ≤ H0.size) (hXp : z_KXp sz (KXf OB sz)) (hX : KXf OB sz s H0) (hKS : z_KS Ts TBL cl FT own MT K) (hin : ∀ j, k_IN K = some j → meth.name = "<init>") (hPH : ∀ a ∈ PHS, z_phok TY PHI a = true)
    (hok : ∀ g ∈ (k_CA K).filterMap (fun a => SG[a.2]?), ∀ mm, MT[g.1]? = some mm → z_OK TBL cl FT TY PHI KXf mm.1 mm.2.1 mm.2.2.1 mm.2.2.2.1 g.2) {finV finI : zS → Bool} (hfV : ∀ pc st, decode cc pc = .ok (.return_, 1) → finV st = true → good pc st) (hfI : ∀ pc st, decode cc pc = .ok (.ireturn, 1) → finI st = true → good pc st)
    {L : List (Nat × zS)} (h : z_stp TY PHI cl FT MT SG RO PHS R pu nL K cc finV finI pc st = some L) (hall : ∀ q ∈ L, good q.1 q.2) : good pc st := by
  unfold z_stp at h
  split at h
  · rename_i L1 h1
    refine z_acts_ok hg hPH h1 (fun s1 hs1 => ?_)
    split at h
    · rename_i len hd
      cases hc : (Nat.beq len 1 && L1.all finV) with
      | false => rw [hc] at h; cases h
      | true =>
        rw [Bool.and_eq_true] at hc
        rw [z_beq hc.1] at hd
        exact hfV pc s1 hd (List.all_eq_true.mp hc.2 s1 hs1)
    · rename_i len hd
      cases hc : (Nat.beq len 1 && L1.all finI) with
      | false => rw [hc] at h; cases h
      | true =>
        rw [Bool.and_eq_true] at hc
        rw [z_beq hc.1] at hd
        exact hfI pc s1 hd (List.all_eq_true.mp hc.2 s1 hs1)
    · rename_i ins len _ _ hd
      obtain ⟨a, k1, k2⟩ := z_fmp_ok h s1 hs1
      exact z_step_ok hg hx hb hml hD hsz hXp hX hKS hin hok hd k1 (fun q hq => hall q (k2 q hq))
    · cases h
  · cases h
theorem z_run_ok {stp : Nat → zS → Option (List (Nat × zS))} {cut : Nat → zS → Bool} (hst : ∀ pc st L, stp pc st = some L → (∀ q ∈ L, good q.1 q.2) → good pc st) (hcut : ∀ pc st, cut pc st = true → good pc st) : ∀ {f pc : Nat} {st : zS}, z_run stp cut f pc st = true → good pc st
  | 0, _, _, h => by cases h
  | f + 1, pc, st, h => by
    unfold z_run at h
    split at h
    · rename_i L hL
      refine hst pc st L hL (fun q hq => ?_)
      have h1 := List.all_eq_true.mp h q hq
      rw [Bool.or_eq_true] at h1
      rcases h1 with h1 | h1
      · exact hcut _ _ h1
      · exact z_run_ok hst hcut h1
    · cases h
/-- a run with its cut points: 'ends' is what is known of the values with the first names -/
theorem z_runs {CU : List zCu} {ng : Nat} {stp : Nat → zS → Option (List (Nat × zS))} {fuel : Nat} {ends : List Value → Prop} (hends : ∀ env env' : List Value, ends env → (∀ i, i < ng → env'[i]? = env[i]?) → ends env')
    (hst : ∀ (env0 : List Value) (pc : Nat) (st : zS) (L : List (Nat × zS)), ends env0 → stp pc st = some L → (∀ q ∈ L, ∀ T H locs env ls stk, z_sat OB D DA cl TY PHI sz raw pu T0 H0 env0 nL q.2 T H locs env ls stk → W p l e R s m args below meth c H locs (z_C q.2).1 (z_C q.2).2 Q (F0 m q.1 ls stk)) → ∀ T H locs env ls stk, z_sat OB D DA cl TY PHI sz raw pu T0 H0 env0 nL st T H locs env ls stk → W p l e R s m args below meth c H locs (z_C st).1 (z_C st).2 Q (F0 m pc ls stk))
    (hCU : CU.all (fun k => k.2.2.2.2.all (fun q => Nat.blt q.1 (z_n k.2.1)) && z_run stp (z_cut CU ng (some k.2.2.2)) fuel k.1 k.2.1) = true) {st0 : zS} {pc0 : Nat} (h0 : z_run stp (z_cut CU ng none) fuel pc0 st0 = true) {env0 : List Value} (he : ends env0) {T : zTp} {H : Heap} {locs : List Loc} {env : List Value} {ls : Array Slot} {stk : List Value} (hng : ng ≤ env0.length)
    (hs : z_sat OB D DA cl TY PHI sz raw pu T0 H0 env0 nL st0 T H locs env ls stk) : W p l e R s m args below meth c H locs (z_C st0).1 (z_C st0).2 Q (F0 m pc0 ls stk) := by
  -- all cut points, by the rank
  have cuts : ∀ n : Nat, ∀ k ∈ CU, ∀ T H locs env ls stk, z_sat OB D DA cl TY PHI sz raw pu T0 H0 env nL k.2.1 T H locs env ls stk → ends env → ng ≤ env.length → 0 ≤ k.2.2.2.1 + z_ev env k.2.2.2.2 → (k.2.2.2.1 + z_ev env k.2.2.2.2).toNat ≤ n → W p l e R s m args below meth c H locs (z_C k.2.1).1 (z_C k.2.1).2 Q (F0 m k.1 ls stk) := by
    intro n
    induction n using Nat.strongRecOn with
    | ind n ih =>
      intro k hk T H locs env ls stk hs1 he1 hn1 hr0 hr1
      have hk2 := List.all_eq_true.mp hCU k hk
      rw [Bool.and_eq_true] at hk2
      refine z_run_ok (good := fun pc st => ∀ T H locs env2 ls stk, z_sat OB D DA cl TY PHI sz raw pu T0 H0 env nL st T H locs env2 ls stk → W p l e R s m args below meth c H locs (z_C st).1 (z_C st).2 Q (F0 m pc ls stk)) (fun pc st L h1 h2 => hst env pc st L he1 h1 h2) (fun pc st h1 => ?_) hk2.2 T H locs env ls stk hs1
      intro T2 H2 locs2 env2 ls2 stk2 hs2
      unfold z_cut at h1
      obtain ⟨k3, hk3, h3⟩ := List.any_eq_true.mp h1
      rw [Bool.and_eq_true] at h3
      obtain ⟨h3a, h3b⟩ := h3
      split at h3b
      · rename_i sg hsg
        simp only [Bool.and_eq_true] at h3b
        obtain ⟨⟨b1, b2⟩, b3⟩ := h3b
        obtain ⟨c1, c2, env3, c3, c4⟩ := z_sub2_ok b1 hs2
        have gh : ∀ i, i < ng → env3[i]? = env[i]? := by
          intro i hi
          have := List.all_eq_true.mp b2 i (List.mem_range.mpr hi)
          split at this
          · rename_i j hj
            obtain ⟨w, hw⟩ := hs2.2.1
            rw [c3 _ _ hj, z_beq this, hw, List.getElem?_append_left (by omega)]
          · cases this
        unfold z_rnk at b3
        split at b3
        · rename_i t ht
          rw [Bool.and_eq_true] at b3
          obtain ⟨d1, d2⟩ := b3
          have e3 := z_ev_map c3 ht
          obtain ⟨w, hw⟩ := hs2.2.1
          have e4 : z_ev env2 k.2.2.2.2 = z_ev env k.2.2.2.2 := by
            rw [hw]
            refine z_ev_pre ?_
            rw [hs1.1]; exact hk2.1
          have lo : 0 ≤ k3.2.2.2.1 + z_ev env3 k3.2.2.2.2 := by
            split at d1
            · rename_i b hb
              have := z_lw_ok hs2 hb
              have := z_ile_ok d1
              rw [e3]; omega
            · cases d1
          have lt : k3.2.2.2.1 + z_ev env3 k3.2.2.2.2 < k.2.2.2.1 + z_ev env k.2.2.2.2 := by
            have d2 : (match z_lw st 12 (k.2.2.2.2 ++ t.map (fun q => (q.1, -q.2))) with
              | some b => z_ile 1 (k.2.2.2.1 - k3.2.2.2.1 + b)
              | none => false) = true := d2
            split at d2
            · rename_i b hb
              have h5 := z_lw_ok hs2 hb
              have h6 := z_ile_ok d2
              rw [z_ev_app, z_ev_neg, e4] at h5
              rw [e3]; omega
            · cases d2
          have hlen : ng ≤ env3.length := by
            rcases Nat.eq_zero_or_pos ng with h | h
            · omega
            · have h7 := gh (ng - 1) (by omega)
              have h8 : ng - 1 < env.length := by omega
              rw [List.getElem?_eq_getElem h8] at h7
              have := (List.getElem?_eq_some_iff.mp h7).1
              omega
          have := ih (k3.2.2.2.1 + z_ev env3 k3.2.2.2.2).toNat (by omega) k3 hk3 T2 H2 locs2 env3 ls2 stk2 c4 (hends env env3 he1 gh) hlen lo (Nat.le_refl _)
          rw [z_beq h3a] at this
          exact W.widen c1 c2 this
        · cases b3
      · cases h3b
  refine z_run_ok (good := fun pc st => ∀ T H locs env2 ls stk, z_sat OB D DA cl TY PHI sz raw pu T0 H0 env0 nL st T H locs env2 ls stk → W p l e R s m args below meth c H locs (z_C st).1 (z_C st).2 Q (F0 m pc ls stk)) (fun pc st L h1 h2 => hst env0 pc st L he h1 h2) (fun pc st h1 => ?_) h0 T H locs env ls stk hs
  intro T2 H2 locs2 env2 ls2 stk2 hs2
  unfold z_cut at h1
  obtain ⟨k3, hk3, h3⟩ := List.any_eq_true.mp h1
  rw [Bool.and_eq_true] at h3
  obtain ⟨h3a, h3b⟩ := h3
  split at h3b
  · rename_i sg hsg
    simp only [Bool.and_eq_true] at h3b
    obtain ⟨⟨b1, b2⟩, b3⟩ := h3b
    obtain ⟨c1, c2, env3, c3, c4⟩ := z_sub2_ok b1 hs2
    have gh : ∀ i, i < ng → env3[i]? = env0[i]? := by
      intro i hi
      have := List.all_eq_true.mp b2 i (List.mem_range.mpr hi)
      split at this
      · rename_i j hj
        obtain ⟨w, hw⟩ := hs2.2.1
        rw [c3 _ _ hj, z_beq this, hw, List.getElem?_append_left (by omega)]
      · cases this
    unfold z_rnk at b3
    split at b3
    · rename_i t ht
      rw [Bool.and_eq_true] at b3
      obtain ⟨d1, d2⟩ := b3
      have e3 := z_ev_map c3 ht
      have lo : 0 ≤ k3.2.2.2.1 + z_ev env3 k3.2.2.2.2 := by
        split at d1
        · rename_i b hb
          have := z_lw_ok hs2 hb
          have := z_ile_ok d1
          rw [e3]; omega
        · cases d1
      have hlen : ng ≤ env3.length := by
        rcases Nat.eq_zero_or_pos ng with h | h
        · omega
        · have h7 := gh (ng - 1) (by omega)
          have h8 : ng - 1 < env0.length := by omega
          rw [List.getElem?_eq_getElem h8] at h7
          have := (List.getElem?_eq_some_iff.mp h7).1
          omega
      have := cuts _ k3 hk3 T2 H2 locs2 env3 ls2 stk2 c4 (hends env0 env3 he gh) hlen lo (Nat.le_refl _)
      rw [z_beq h3a] at this
      exact W.widen c1 c2 this
    · cases b3
  · cases h3b
end ZMETHOD
end
section
/-! A checked certificate gives the contract. -/
section ZCLOSED
variable {cl : List vw_C} {FT : Nat → Nat → FieldType} {TY : List zTy} {PHI : List (List Nat)} {KXf : (Nat → Nat) → Nat → State → Heap → Prop} {TBL : List Cond} {MT : List zM} {SG : List (Nat × zSig)} {RO PHS : List Nat}
theorem z_tys_ok (DA : Nat → ClassId) : ∀ k, k < 3 → (z_tys DA)[k]? = some (DA k, z_ek k) := by
  intro k hk
  match k, hk with
  | 0, _ => rfl
  | 1, _ => rfl
  | 2, _ => rfl
theorem z_meth {mm : zM} {g : zSig} {ce : zCe} (hpl : plainFor mm.1 = true) (hKS : z_KS (Cond.code mm.1 mm.2.1 mm.2.2.1 mm.2.2.2.1 :: TBL) TBL cl FT mm.1.cls MT ce.1) (hin : ∀ j, k_IN ce.1 = some j → mm.1.name = "<init>") (hXp : ∀ OB sz, z_KXp sz (KXf OB sz)) (hPH : ∀ a ∈ PHS, z_phok TY PHI a = true)
    (hok : ∀ g ∈ (k_CA ce.1).filterMap (fun a => SG[a.2]?), ∀ m2, MT[g.1]? = some m2 → z_OK TBL cl FT TY PHI KXf m2.1 m2.2.1 m2.2.2.1 m2.2.2.2.1 g.2) (h : z_chk TY PHI cl FT MT SG RO PHS mm g ce = true) : z_OK TBL cl FT TY PHI KXf mm.1 mm.2.1 mm.2.2.1 mm.2.2.2.1 g := by
  intro l OB D DA sz T
  refine va_MetF (cc := mm.2.1) (maxL := mm.2.2.1) (ret := mm.2.2.2.1) hpl rfl ?_
  intro p e s m args below meth c s₁ B hml hPre
  unfold z_chk at h
  split at h
  · rename_i st0 ws hent
    rw [Bool.and_eq_true] at h
    obtain ⟨vals, e0, hrest⟩ := hPre
    subst e0
    have hPre2 : z_Pre OB D DA cl FT TY sz (KXf OB sz) g T vals.toArray s := ⟨vals, rfl, hrest⟩
    obtain ⟨hl, h1, h2, h3, h4, h5, hsz, hK, hX⟩ := hrest
    obtain ⟨hcat, hn, env, raw, hraw, hsat, hlen, hvals, hwl, hws⟩ := z_ent_ok (pu := g_pur g) (PHI := PHI) hPre2 hent
    have hts : ∀ w ∈ (Cond.code mm.1 mm.2.1 mm.2.2.1 mm.2.2.2.1 :: TBL), w.before vals.toArray s = true := atoms_spec (ws := Cond.code mm.1 mm.2.1 mm.2.2.1 mm.2.2.2.1 :: TBL) B.pre
    have hown : s.vm.findClass mm.1.cls = some m.cls := findClass_of_methodNamed B.named
    have hD : z_Dy s m vals.toArray (Cond.code mm.1 mm.2.1 mm.2.2.1 mm.2.2.2.1 :: TBL) mm.1.cls D cl DA (z_tys DA) := ⟨hts, hown, hK, z_tys_ok DA⟩
    have hname : meth.name = mm.1.name := (name_of_methodNamed B.named B.method).1
    rw [lg_entry_eq]
    have hng : z_n st0 ≤ env.length := by rw [hsat.1]; exact Nat.le_refl _
    have hE0 : z_Ent D cl g raw (g_pur g) s.heap env vals ws := ⟨hraw, fun h => h, hlen, hvals, hwl, hws⟩
    have hC : z_C st0 = (0, 0) ∨ True := Or.inr trivial
    refine W.widen (Nat.zero_le _) (Nat.zero_le _) (z_runs (ng := z_n st0) (ends := fun env2 => z_Ent D cl g raw (g_pur g) s.heap env2 vals ws ∧ (∀ i, i < z_n st0 → env2[i]? = env[i]?)) (fun env1 env2 he hgh => ?_) (fun env1 pc st L he hL hall => ?_) h.2 h.1 ⟨hE0, fun _ _ => rfl⟩ hng hsat)
    · obtain ⟨⟨a1, a2, a3, a4, a5, a6⟩, a7⟩ := he
      have all : ∀ i, i < z_n st0 → env2[i]? = env[i]? := fun i hi => (hgh i hi).trans (a7 i hi)
      refine ⟨⟨a1, a2, a3, fun j v hj => ?_, a5, fun i q w hi hw => ?_⟩, all⟩
      · have hv := hvals j v hj
        have hlt : j < z_n st0 := by rw [← hsat.1]; exact (List.getElem?_eq_some_iff.mp hv).1
        rw [all j hlt]; exact hv
      · obtain ⟨v, y1, y2⟩ := hws i q w hi hw
        have hlt : w < z_n st0 := by rw [← hsat.1]; exact (List.getElem?_eq_some_iff.mp y1).1
        exact ⟨v, by rw [all w hlt]; exact y1, y2⟩
    · refine z_stp_ok (good := fun pc st => ∀ T2 H2 locs2 env2 ls2 stk2, z_sat OB D DA cl TY PHI sz raw (g_pur g) T s.heap env1 mm.2.2.1 st T2 H2 locs2 env2 ls2 stk2 → W p l e (z_room g) s m vals.toArray below meth c H2 locs2 (z_C st).1 (z_C st).2 (MQ below (z_Post OB D DA cl TY PHI sz g T) vals.toArray s (g_mk g).1 (g_mk g).2 (fun q => sz ≤ q)) (F0 m pc ls2 stk2)) (fun _ _ => Iff.rfl) B.exec B.bytes hml hD hsz (hXp OB sz) hX hKS (fun j hj => by rw [hname]; exact hin j hj) hPH hok (fun pc st hd hf => ?_) (fun pc st hd hf => ?_) hL hall
      · unfold z_finV at hf
        simp only [Bool.and_eq_true] at hf
        obtain ⟨⟨f1, f2⟩, f3⟩ := hf
        have hr : meth.sig.returnType = none := by rw [B.returns]; exact Option.isNone_iff_eq_none.mp f2
        exact z_r_vret (fun _ _ => Iff.rfl) B.exec B.bytes hr B.notSynchronized he.1 hd (List.isEmpty_iff.mp f1) f3
      · exact z_r_iret (fun _ _ => Iff.rfl) B.exec B.bytes B.returns B.notSynchronized he.1 hd hf
  · cases h
end ZCLOSED
end
section
/-! The same in pieces, and with a step of its own: a hook. -/
abbrev zHk : Type := Nat → zS → Option (List (Nat × zS))
def z_non : zHk := fun _ _ => none
def z_hst (hk : zHk) (stp : Nat → zS → Option (List (Nat × zS))) (pc : Nat) (st : zS) : Option (List (Nat × zS)) := match hk pc st with
  | some L => some L
  | none => stp pc st
def z_chk0 (hk : zHk) (TY : List zTy) (PHI : List (List Nat)) (cl : List vw_C) (FT : Nat → Nat → FieldType) (MT : List zM) (SG : List (Nat × zSig)) (RO PHS : List Nat) (mm : zM) (g : zSig) (ce : zCe) : Bool := match z_ent TY cl FT mm.2.2.1 g with
  | some (st0, ws) => z_run (z_hst hk (z_stp TY PHI cl FT MT SG RO PHS (z_room g) (g_pur g) mm.2.2.1 ce.1 mm.2.1 (z_finV TY cl g ws mm.2.2.2.1) (z_iret TY cl g ws mm.2.2.2.1))) (z_cut ce.2.1 (z_n st0) none) ce.2.2 0 st0
  | none => false
def z_chkP (hk : zHk) (TY : List zTy) (PHI : List (List Nat)) (cl : List vw_C) (FT : Nat → Nat → FieldType) (MT : List zM) (SG : List (Nat × zSig)) (RO PHS : List Nat) (mm : zM) (g : zSig) (ce : zCe) (P : List zCu) : Bool := match z_ent TY cl FT mm.2.2.1 g with
  | some (st0, ws) => P.all (fun k => k.2.2.2.2.all (fun q => Nat.blt q.1 (z_n k.2.1)) && z_run (z_hst hk (z_stp TY PHI cl FT MT SG RO PHS (z_room g) (g_pur g) mm.2.2.1 ce.1 mm.2.1 (z_finV TY cl g ws mm.2.2.2.1) (z_iret TY cl g ws mm.2.2.2.1))) (z_cut ce.2.1 (z_n st0) (some k.2.2.2)) ce.2.2 k.1 k.2.1)
  | none => false
section ZHOOK
variable {cl : List vw_C} {FT : Nat → Nat → FieldType} {TY : List zTy} {PHI : List (List Nat)} {KXf : (Nat → Nat) → Nat → State → Heap → Prop} {TBL : List Cond} {MT : List zM} {SG : List (Nat × zSig)} {RO PHS : List Nat} {hk : zHk} {mm : zM} {g : zSig} {ce : zCe}
theorem z_chkP_app {A B : List zCu} (h1 : z_chkP hk TY PHI cl FT MT SG RO PHS mm g ce A = true) (h2 : z_chkP hk TY PHI cl FT MT SG RO PHS mm g ce B = true) : z_chkP hk TY PHI cl FT MT SG RO PHS mm g ce (A ++ B) = true := by
  unfold z_chkP at h1 h2 ⊢
  split at h1
  · rename_i st0 ws hent
    rw [hent] at h2
    have h2 : B.all _ = true := h2
    show (A ++ B).all _ = true
    rw [List.all_append, Bool.and_eq_true]
    exact ⟨h1, h2⟩
  · cases h1
/-- what a hook must keep -/
def z_hok (TBL : List Cond) (cl : List vw_C) (TY : List zTy) (PHI : List (List Nat)) (KXf : (Nat → Nat) → Nat → State → Heap → Prop) (mm : zM) (g : zSig) (hk : zHk) : Prop :=
  ∀ (p : Program) (l : Launch) (e : Env) (s : State) (m : MethodId) (args : Array Value) (below : List Frame) (meth : Method) (c : Code) (Q : State → Prop) (OB : Nat → Nat) (D : va_G) (DA : Nat → ClassId) (sz : Nat) (raw : Option Nat) (T0 : zTp) (H0 : Heap) (env0 : List Value) (good : Nat → zS → Prop),
    z_Good p l e (z_room g) s m args below meth c Q OB D DA cl TY PHI sz raw (g_pur g) T0 H0 env0 mm.2.2.1 good → p.tables.exec = Jvm.exec → c.code = mm.2.1 → c.maxLocals = mm.2.2.1 → z_Dy s m args (Cond.code mm.1 mm.2.1 mm.2.2.1 mm.2.2.2.1 :: TBL) mm.1.cls D cl DA (z_tys DA) → sz ≤ H0.size → KXf OB sz s H0 →
    ∀ pc st L, hk pc st = some L → (∀ q ∈ L, good q.1 q.2) → good pc st
theorem z_non_ok : z_hok TBL cl TY PHI KXf mm g z_non := by
  intro p l e s m args below meth c Q OB D DA sz raw T0 H0 env0 good _ _ _ _ _ _ _ pc st L h
  cases h
theorem z_methH (hpl : plainFor mm.1 = true) (hKS : z_KS (Cond.code mm.1 mm.2.1 mm.2.2.1 mm.2.2.2.1 :: TBL) TBL cl FT mm.1.cls MT ce.1) (hin : ∀ j, k_IN ce.1 = some j → mm.1.name = "<init>") (hXp : ∀ OB sz, z_KXp sz (KXf OB sz)) (hPH : ∀ a ∈ PHS, z_phok TY PHI a = true)
    (hok : ∀ g ∈ (k_CA ce.1).filterMap (fun a => SG[a.2]?), ∀ m2, MT[g.1]? = some m2 → z_OK TBL cl FT TY PHI KXf m2.1 m2.2.1 m2.2.2.1 m2.2.2.2.1 g.2) (hH : z_hok TBL cl TY PHI KXf mm g hk) (h0 : z_chk0 hk TY PHI cl FT MT SG RO PHS mm g ce = true) (hP : z_chkP hk TY PHI cl FT MT SG RO PHS mm g ce ce.2.1 = true) : z_OK TBL cl FT TY PHI KXf mm.1 mm.2.1 mm.2.2.1 mm.2.2.2.1 g := by
  intro l OB D DA sz T
  refine va_MetF (cc := mm.2.1) (maxL := mm.2.2.1) (ret := mm.2.2.2.1) hpl rfl ?_
  intro p e s m args below meth c s₁ B hml hPre
  unfold z_chk0 at h0
  unfold z_chkP at hP
  split at h0
  · rename_i st0 ws hent
    rw [hent] at hP
    have hP : ce.2.1.all _ = true := hP
    obtain ⟨vals, e0, hrest⟩ := hPre
    subst e0
    have hPre2 : z_Pre OB D DA cl FT TY sz (KXf OB sz) g T vals.toArray s := ⟨vals, rfl, hrest⟩
    obtain ⟨hl, h1, h2, h3, h4, h5, hsz, hK, hX⟩ := hrest
    obtain ⟨hcat, hn, env, raw, hraw, hsat, hlen, hvals, hwl, hws⟩ := z_ent_ok (pu := g_pur g) (PHI := PHI) hPre2 hent
    have hts : ∀ w ∈ (Cond.code mm.1 mm.2.1 mm.2.2.1 mm.2.2.2.1 :: TBL), w.before vals.toArray s = true := atoms_spec (ws := Cond.code mm.1 mm.2.1 mm.2.2.1 mm.2.2.2.1 :: TBL) B.pre
    have hown : s.vm.findClass mm.1.cls = some m.cls := findClass_of_methodNamed B.named
    have hD : z_Dy s m vals.toArray (Cond.code mm.1 mm.2.1 mm.2.2.1 mm.2.2.2.1 :: TBL) mm.1.cls D cl DA (z_tys DA) := ⟨hts, hown, hK, z_tys_ok DA⟩
    have hname : meth.name = mm.1.name := (name_of_methodNamed B.named B.method).1
    rw [lg_entry_eq]
    have hng : z_n st0 ≤ env.length := by rw [hsat.1]; exact Nat.le_refl _
    have hE0 : z_Ent D cl g raw (g_pur g) s.heap env vals ws := ⟨hraw, fun h => h, hlen, hvals, hwl, hws⟩
    have hC : z_C st0 = (0, 0) ∨ True := Or.inr trivial
    refine W.widen (Nat.zero_le _) (Nat.zero_le _) (z_runs (ng := z_n st0) (ends := fun env2 => z_Ent D cl g raw (g_pur g) s.heap env2 vals ws ∧ (∀ i, i < z_n st0 → env2[i]? = env[i]?)) (fun env1 env2 he hgh => ?_) (fun env1 pc st L he hL hall => ?_) hP h0 ⟨hE0, fun _ _ => rfl⟩ hng hsat)
    · obtain ⟨⟨a1, a2, a3, a4, a5, a6⟩, a7⟩ := he
      have all : ∀ i, i < z_n st0 → env2[i]? = env[i]? := fun i hi => (hgh i hi).trans (a7 i hi)
      refine ⟨⟨a1, a2, a3, fun j v hj => ?_, a5, fun i q w hi hw => ?_⟩, all⟩
      · have hv := hvals j v hj
        have hlt : j < z_n st0 := by rw [← hsat.1]; exact (List.getElem?_eq_some_iff.mp hv).1
        rw [all j hlt]; exact hv
      · obtain ⟨v, y1, y2⟩ := hws i q w hi hw
        have hlt : w < z_n st0 := by rw [← hsat.1]; exact (List.getElem?_eq_some_iff.mp y1).1
        exact ⟨v, by rw [all w hlt]; exact y1, y2⟩
    · unfold z_hst at hL
      split at hL
      · rename_i L2 hL2
        cases hL
        exact hH p l e s m vals.toArray below meth c _ OB D DA sz raw T s.heap env1 (fun pc st => ∀ T2 H2 locs2 env2 ls2 stk2, z_sat OB D DA cl TY PHI sz raw (g_pur g) T s.heap env1 mm.2.2.1 st T2 H2 locs2 env2 ls2 stk2 → W p l e (z_room g) s m vals.toArray below meth c H2 locs2 (z_C st).1 (z_C st).2 (MQ below (z_Post OB D DA cl TY PHI sz g T) vals.toArray s (g_mk g).1 (g_mk g).2 (fun q => sz ≤ q)) (F0 m pc ls2 stk2)) (fun _ _ => Iff.rfl) B.exec B.bytes hml hD hsz hX pc st L hL2 hall
      refine z_stp_ok (good := fun pc st => ∀ T2 H2 locs2 env2 ls2 stk2, z_sat OB D DA cl TY PHI sz raw (g_pur g) T s.heap env1 mm.2.2.1 st T2 H2 locs2 env2 ls2 stk2 → W p l e (z_room g) s m vals.toArray below meth c H2 locs2 (z_C st).1 (z_C st).2 (MQ below (z_Post OB D DA cl TY PHI sz g T) vals.toArray s (g_mk g).1 (g_mk g).2 (fun q => sz ≤ q)) (F0 m pc ls2 stk2)) (fun _ _ => Iff.rfl) B.exec B.bytes hml hD hsz (hXp OB sz) hX hKS (fun j hj => by rw [hname]; exact hin j hj) hPH hok (fun pc st hd hf => ?_) (fun pc st hd hf => ?_) hL hall
      · unfold z_finV at hf
        simp only [Bool.and_eq_true] at hf
        obtain ⟨⟨f1, f2⟩, f3⟩ := hf
        have hr : meth.sig.returnType = none := by rw [B.returns]; exact Option.isNone_iff_eq_none.mp f2
        exact z_r_vret (fun _ _ => Iff.rfl) B.exec B.bytes hr B.notSynchronized he.1 hd (List.isEmpty_iff.mp f1) f3
      · exact z_r_iret (fun _ _ => Iff.rfl) B.exec B.bytes B.returns B.notSynchronized he.1 hd hf
  · cases h0
end ZHOOK
end
section
/-! The length of a string constant, by hand. -/
def zs_K (own tx : String) (k n : Nat) (OB : Nat → Nat) (sz : Nat) (U : State) (H : Heap) : Prop := ∃ (adV : Nat) (f : Nat → Value), vk_R own k tx (OB 1) U ∧ va_O "java/lang/String" (OB 1) (fun q => sz ≤ q) U H ∧ va_OF "java/lang/String" "coder" "B" (.int 0) (OB 1) (fun q => sz ≤ q) U H ∧ va_OF "java/lang/String" "value" "[B" (.ref adV) (OB 1) (fun q => sz ≤ q) U H ∧ va_T .byte adV n f (fun q => sz ≤ q) U H ∧ va_Z "java/lang/String" "COMPACT_STRINGS" "Z" (.int 1) (fun q => sz ≤ q) U H
theorem zs_K_p {own tx : String} {k n : Nat} {OB : Nat → Nat} {sz : Nat} : z_KXp sz (zs_K own tx k n OB sz) := by
  refine ⟨fun s U H h hW => ?_, fun s H H1 h _ hq => ?_, fun u U H hvm h => ?_⟩
  · obtain ⟨adV, f, k1, k2, k3, k4, k5, k6⟩ := h
    exact ⟨adV, f, vk_R.warm hW k1, va_O.moved hW.alike k2, va_OF.moved hW.alike k3, va_OF.moved hW.alike k4, va_T.moved hW.alike k5, va_Z.moved hW.alike k6⟩
  · obtain ⟨adV, f, k1, k2, k3, k4, k5, k6⟩ := h
    exact ⟨adV, f, k1, k2.kept hq, k3.kept hq, k4.kept hq, k5.kept hq, k6.kept hq⟩
  · obtain ⟨adV, f, k1, k2, k3, k4, k5, k6⟩ := h
    have ha : u.vm.Alike U.vm := by rw [hvm]; exact Vm.Alike.refl _
    exact ⟨adV, f, vk_R.same hvm k1, va_O.moved ha k2, va_OF.moved ha k3, va_OF.moved ha k4, va_T.moved ha k5, va_Z.moved ha k6⟩
def zs_P (own tx : String) (k n : Nat) (OB : Nat → Nat) (sz : Nat) (args : Array Value) (U : State) : Prop := args = ([.ref (OB 1)] : List Value).toArray ∧ zs_K own tx k n OB sz U U.heap
theorem zs_blind {own tx : String} {k n : Nat} {OB : Nat → Nat} {sz : Nat} : FrameBlind (zs_P own tx k n OB sz) := fun a U gf mk h => ⟨h.1, zs_K_p.2.2 U (U.calling gf mk a) _ rfl h.2⟩
abbrev zs_yC : MethodName := ⟨"java/lang/String", "coder", "()B"⟩
abbrev zs_yL : MethodName := ⟨"java/lang/String", "length", "()I"⟩
def zs_w : List Cond := [Cond.fieldLink "java/lang/String" 38 "java/lang/String" "COMPACT_STRINGS" "Z", Cond.fieldLink "java/lang/String" 15 "java/lang/String" "coder" "B", Cond.fieldLink "java/lang/String" 9 "java/lang/String" "value" "[B", Cond.methodLink "java/lang/String" 335 zs_yC, Cond.instanceMethod zs_yC, Cond.selects "java/lang/String" zs_yC zs_yC, Cond.initialized "java/lang/String", Cond.code zs_yC prog_18_method_152_code 1 (some .byte), Cond.code zs_yL prog_18_method_54_code 1 (some .int), Cond.instanceMethod zs_yL, Cond.selects "java/lang/String" zs_yL zs_yL]
section ZSTR
variable {TBL : List Cond} {own tx : String} {k n : Nat} {OB : Nat → Nat} {sz : Nat}
theorem zs_coder (l : Launch) (hw : ∀ w ∈ zs_w, w ∈ TBL) : Met l zs_yC (Cond.code zs_yC prog_18_method_152_code 1 (some .byte) :: TBL) { frames := 0, cells := 0, slots := 0, locals := 0 } (zs_P own tx k n OB sz) (QcRead 0) 0 0 (fun _ => False) := by
  refine Met.ofW (cc := prog_18_method_152_code) (maxL := 1) (ret := some .byte) rfl rfl ?_
  intro p e s m args below meth c s₁ B hml hPre
  obtain ⟨rfl, adV, f, k1, k2, k3, k4, k5, k6⟩ := hPre
  have hts : ∀ w ∈ (Cond.code zs_yC prog_18_method_152_code 1 (some .byte) :: TBL), w.before ([.ref (OB 1)] : List Value).toArray s = true := atoms_spec (ws := Cond.code zs_yC prog_18_method_152_code 1 (some .byte) :: TBL) B.pre
  have hw2 : ∀ w ∈ zs_w, w.before ([.ref (OB 1)] : List Value).toArray s = true := fun w h => hts w (List.mem_cons_of_mem _ (hw w h))
  have hown : s.vm.findClass "java/lang/String" = some m.cls := findClass_of_methodNamed B.named
  rw [lg_entry_eq]
  have hS : va_S (fun q => sz ≤ q) s.heap s.heap [] := va_S.rf
  have hl := (lv_entry [.ref (OB 1)] (n := 1) (show (lg_sl [Value.ref (OB 1)]).length ≤ 1 from Nat.le_refl 1)).2.2 (0, .ref (OB 1)) (by simp [lv_args])
  refine va_gets B.exec B.bytes k6 hS hown (hw2 _ (List.mem_of_getElem? (i := 0) rfl)) (fun x h => h) (index := 38) (by decide +kernel) ?_
  refine lv_if_eq B.exec B.bytes (tgt := 13) (off := 10) (by decide +kernel) (by decide) (fun h => absurd h (by decide)) (fun _ => ?_)
  refine lv_aload_n B.exec B.bytes (k := 0) (i := 0) (by decide +kernel) rfl hl ?_
  refine vk_getf B.exec B.bytes k3 hS hown (hw2 _ (List.mem_of_getElem? (i := 1) rfl)) (fun x h => h) (index := 15) (by decide +kernel) ?_
  refine lv_goto B.exec B.bytes (off := 4) (tgt := 14) (by decide +kernel) (by decide) ?_
  exact W.zret B.exec B.bytes B.returns rfl (fun t ht _ => ⟨rfl, ht⟩) (fun q hq => absurd hq List.not_mem_nil) (by decide +kernel) B.notSynchronized
theorem zs_length (l : Launch) (hw : ∀ w ∈ zs_w, w ∈ TBL) (hgd : ∀ w ∈ TBL, z_gw w = true) (hn : n < 2147483648) : Met l zs_yL (Cond.code zs_yL prog_18_method_54_code 1 (some .int) :: TBL) { frames := 1, cells := 0, slots := 0, locals := 20 } (zs_P own tx k n OB sz) (QcRead (Int32.ofNat n)) 0 0 (fun _ => False) := by
  refine Met.ofW (cc := prog_18_method_54_code) (maxL := 1) (ret := some .int) rfl rfl ?_
  intro p e s m args below meth c s₁ B hml hPre
  obtain ⟨rfl, hK⟩ := hPre
  have hK0 := hK
  obtain ⟨adV, f, k1, k2, k3, k4, k5, k6⟩ := hK
  have hts : ∀ w ∈ (Cond.code zs_yL prog_18_method_54_code 1 (some .int) :: TBL), w.before ([.ref (OB 1)] : List Value).toArray s = true := atoms_spec (ws := Cond.code zs_yL prog_18_method_54_code 1 (some .int) :: TBL) B.pre
  have hw2 : ∀ w ∈ zs_w, w.before ([.ref (OB 1)] : List Value).toArray s = true := fun w h => hts w (List.mem_cons_of_mem _ (hw w h))
  have hown : s.vm.findClass "java/lang/String" = some m.cls := findClass_of_methodNamed B.named
  rw [lg_entry_eq]
  have hS : va_S (fun q => sz ≤ q) s.heap s.heap [] := va_S.rf
  have hlv := lv_entry [.ref (OB 1)] (n := 1) (show (lg_sl [Value.ref (OB 1)]).length ≤ 1 from Nat.le_refl 1)
  have hl := hlv.2.2 (0, .ref (OB 1)) (by simp [lv_args])
  have hwsG : ∀ w ∈ (Cond.code zs_yC prog_18_method_152_code 1 (some .byte) :: TBL), ∀ (a' : Array Value) (U : State), s.WarmedH U.vm → w.before a' U = true := by
    refine z_pay hts (fun w h => ?_)
    rcases List.mem_cons.mp h with rfl | h
    · exact ⟨List.mem_cons_of_mem _ (hw _ (List.mem_of_getElem? (i := 7) rfl)), rfl⟩
    · exact ⟨List.mem_cons_of_mem _ h, hgd w h⟩
  refine lv_aload_n B.exec B.bytes (k := 0) (i := 0) (by decide +kernel) rfl hl ?_
  refine vk_getf B.exec B.bytes k4 hS hown (hw2 _ (List.mem_of_getElem? (i := 2) rfl)) (fun x h => h) (index := 9) (by decide +kernel) ?_
  refine va_tlen B.exec B.bytes k5 hS rfl (by decide +kernel) ?_
  have d1 : decode prog_18_method_54_code 6 = .ok (.invokevirtual 335, 3) := by decide +kernel
  have d2 : decode prog_18_method_54_code 9 = .ok (.ishr, 1) := by decide +kernel
  have d3 : decode prog_18_method_54_code 10 = .ok (.ireturn, 1) := by decide +kernel
  refine lv_aload_n B.exec B.bytes (k := 0) (i := 0) (by decide +kernel) rfl hl ?_
  refine W.callR (W.runV (b := OB 1) (As := []) (rest := [.int (Int32.ofNat n)]) (C := "java/lang/String") (n := 0) (index := 335) ⟨B.exec, B.bytes, hml, hown, hts⟩ (zs_coder (own := own) (tx := tx) (k := k) (n := n) (OB := OB) (sz := sz) l hw) ⟨⟨rfl, rfl, Nat.le_refl _, Nat.le_refl _, hwsG, List.mem_cons_self, hw2 _ (List.mem_of_getElem? (i := 7) rfl), hw2 _ (List.mem_of_getElem? (i := 6) rfl), by decide, fun sig h => ?_, hw2 _ (List.mem_of_getElem? (i := 3) rfl)⟩, hw2 _ (List.mem_of_getElem? (i := 4) rfl), hw2 _ (List.mem_of_getElem? (i := 5) rfl)⟩ ⟨zs_blind, ?_, fun U hU hW => ⟨rfl, ?_⟩⟩ rfl rfl ?_ rfl ?_ d1 ⟨Nat.le_refl _, Nat.le_refl _⟩) ?_
  · have : (parseMethodDescriptor "()B").map (fun d => d.parameters.length) = some 0 := by decide +kernel
    rw [h] at this
    exact (Option.some.inj this).symm
  · obtain ⟨cell, y1, y2, y3, -⟩ := k2
    exact ⟨cell, y1, y2, y3⟩
  · rw [hU]
    exact zs_K_p.1 s U s.heap hK0 hW
  · exact hlv.1
  · show 2 * 0 + _ ≤ 8
    exact (by decide : 2 * 0 + 1 ≤ 8)
  · refine lv_ishr (pc := 9) B.exec B.bytes d2 ?_
    have e0 : (Int32.ofNat n) >>> ((0 : Int32) &&& 31) = Int32.ofNat n := sc_shr0 hn
    rw [e0]
    exact W.iret B.exec B.bytes B.returns (fun t ht _ => ⟨rfl, ht⟩) (fun q hq => absurd hq List.not_mem_nil) d3 B.notSynchronized
/-- the hook: a constant and its length, two instructions -/
def zs_hk (g : zSig) (p0 : Nat) (n : Int) : zHk := fun pc st => cond (Nat.beq pc p0) (match z_csum st (z_S st) with
  | some k => cond (Nat.ble k 8 && (Nat.ble (z_C st).1 (g_mk g).1 && Nat.ble (z_C st).2 (g_mk g).2)) ((z_iconst st n).map (fun s => [(p0 + 5, s)])) none
  | none => none) none
theorem zs_hk_ok {cl : List vw_C} {TY : List zTy} {PHI : List (List Nat)} {mm : zM} {g : zSig} {p0 i : Nat} (hw : ∀ w ∈ zs_w, w ∈ TBL) (hgd : ∀ w ∈ TBL, z_gw w = true) (hn : n < 2147483648) (hlink : Cond.methodLink mm.1.cls i zs_yL ∈ TBL) (hd1 : decode mm.2.1 p0 = .ok (.ldc k, 2)) (hd2 : decode mm.2.1 (p0 + 2) = .ok (.invokevirtual i, 3)) (hR : 2 ≤ (g_rm g).1 ∧ 40 ≤ (g_rm g).2) : z_hok TBL cl TY PHI (zs_K mm.1.cls tx k n) mm g (zs_hk g p0 (n : Int)) := by
  intro p l e s m args below meth c Q OB D DA sz raw T0 H0 env0 good hg hx hb hml hD hsz hX pc st L hL hall
  unfold zs_hk at hL
  cases hpc : Nat.beq pc p0 with
  | false => rw [hpc] at hL; cases hL
  | true =>
    rw [hpc] at hL
    have hpc := z_beq hpc
    subst hpc
    have hL : (match z_csum st (z_S st) with
      | some k => cond (Nat.ble k 8 && (Nat.ble (z_C st).1 (g_mk g).1 && Nat.ble (z_C st).2 (g_mk g).2)) ((z_iconst st (n : Int)).map (fun s => [(pc + 5, s)])) none
      | none => none) = some L := hL
    split at hL
    · rename_i kk hkk
      cases hk8 : (Nat.ble kk 8 && (Nat.ble (z_C st).1 (g_mk g).1 && Nat.ble (z_C st).2 (g_mk g).2)) with
      | false => rw [hk8] at hL; cases hL
      | true =>
        rw [hk8] at hL
        simp only [Bool.and_eq_true] at hk8
        obtain ⟨hk8, hk9, hk10⟩ := hk8
        have hL : (z_iconst st (n : Int)).map (fun s => [(pc + 5, s)]) = some L := hL
        cases hz : z_iconst st (n : Int) with
        | none => rw [hz] at hL; cases hL
        | some st' =>
          rw [hz] at hL
          cases hL
          have k0 := hall (pc + 5, st') (List.mem_singleton.mpr rfl)
          have k0 : good (pc + 5) st' := k0
          obtain ⟨hts, hown, hK, htys⟩ := hD
          have hw2 : ∀ w ∈ zs_w, w.before args s = true := fun w h => hts w (List.mem_cons_of_mem _ (hw w h))
          refine (hg _ _).mpr fun T H locs env ls stk hs => ?_
          have hmem := hs.2.2.2.2.2.2.2.2.2
          have hcat := z_csum_ok hkk hs hs.2.2.2.1
          have hXH : zs_K mm.1.cls tx k n OB sz s H := zs_K_p.2.1 s H0 H hX hmem.2.2.2.2.1 hmem.2.2.2.2.2.1
          have hXH0 := hXH
          obtain ⟨adV, f, k1, k2, k3, k4, k5, k6⟩ := hXH
          have hwsG : ∀ w ∈ (Cond.code zs_yL prog_18_method_54_code 1 (some .int) :: TBL), ∀ (a' : Array Value) (U : State), s.WarmedH U.vm → w.before a' U = true := by
            refine z_pay hts (fun w h => ?_)
            rcases List.mem_cons.mp h with rfl | h
            · exact ⟨List.mem_cons_of_mem _ (hw _ (List.mem_of_getElem? (i := 8) rfl)), rfl⟩
            · exact ⟨List.mem_cons_of_mem _ h, hgd w h⟩
          refine va_ldcS hx hb hown k1 hd1 ?_
          obtain ⟨lv, z1, _⟩ := hs.2.2.1
          have hlsz : ls.size = mm.2.2.1 := z1.1
          refine W.callR (W.runV (b := OB 1) (As := []) (rest := stk) (C := "java/lang/String") (n := 0) (index := i) ⟨hx, hb, hml, hown, hts⟩ (zs_length (own := mm.1.cls) (tx := tx) (k := k) (n := n) (OB := OB) (sz := sz) l hw hgd hn) ⟨⟨rfl, rfl, hR.1, hR.2, hwsG, List.mem_cons_self, hw2 _ (List.mem_of_getElem? (i := 8) rfl), hw2 _ (List.mem_of_getElem? (i := 6) rfl), by decide, fun sig h => ?_, hts _ (List.mem_cons_of_mem _ hlink)⟩, hw2 _ (List.mem_of_getElem? (i := 9) rfl), hw2 _ (List.mem_of_getElem? (i := 10) rfl)⟩ ⟨zs_blind, ?_, fun U hU hW => ⟨rfl, ?_⟩⟩ rfl rfl hlsz rfl ?_ hd2 ⟨?_, ?_⟩) ?_
          · have : (parseMethodDescriptor "()I").map (fun d => d.parameters.length) = some 0 := by decide +kernel
            rw [h] at this
            exact (Option.some.inj this).symm
          · obtain ⟨cell, y1, y2, y3, -⟩ := k2
            exact ⟨cell, y1, y2, y3⟩
          · rw [hU]
            exact zs_K_p.1 s U H hXH0 hW
          · exact lv_room (by rw [hcat]; exact Nat.le_of_ble_eq_true hk8)
          · exact Nat.le_of_ble_eq_true hk9
          · exact Nat.le_of_ble_eq_true hk10
          · obtain ⟨h1, rfl⟩ := z_cond hz
            have hv : (Int32.ofNat n).toInt = (n : Int) := Int32.toInt_ofNat_of_lt (by omega)
            have := (hg _ _).mp k0 T H locs _ ls _ (z_sat_psh hs hs.2.2.2.1 (c := .inl ((n : Int), (n : Int))) (v := .int (Int32.ofNat n)) ⟨_, rfl, by rw [z_in, hv]; exact ⟨Int.le_refl _, Int.le_refl _⟩⟩ (fun q hq => absurd hq List.not_mem_nil))
            exact this
    · cases hL
end ZSTR
end
section
/-! What the tables say of a class's places, by places in the tables. -/
def zk_at (TB : List Cond) (i : Nat) (w : Cond) : Bool := decide (TB[i]? = some w) && z_gw w
theorem zk_at_ok {TB : List Cond} {i : Nat} {w : Cond} (h : zk_at TB i w = true) : w ∈ TB.filter z_gw := by
  unfold zk_at at h
  rw [Bool.and_eq_true] at h
  exact List.mem_filter.mpr ⟨List.mem_of_getElem? (of_decide_eq_true h.1), h.2⟩
def zk_F (TB : List Cond) (cl : List vw_C) (own : String) : List (Nat × Nat × Nat) → List Nat → Bool
  | [], _ => true
  | q :: L, i :: P => (match cl[q.2.1]? with
    | some r => Nat.blt q.2.2 r.2.2 && zk_at TB i (Cond.fieldLink own q.1 (r.2.1 q.2.2).1 (r.2.1 q.2.2).2.1 (r.2.1 q.2.2).2.2.1)
    | none => false) && zk_F TB cl own L P
  | _ :: _, [] => false
def zk_C (TB : List Cond) (cl : List vw_C) (own : String) : List (Nat × Nat) → List (Nat × Nat × Nat) → Bool
  | [], _ => true
  | q :: L, i :: P => (match cl[q.2]? with
    | some r => zk_at TB i.1 (Cond.classLink own q.1 r.1) && zk_at TB i.2.1 (Cond.instantiable r.1 r.2.2) && zk_at TB i.2.2 (Cond.initialized r.1)
    | none => false) && zk_C TB cl own L P
  | _ :: _, [] => false
def zk_T (TB : List Cond) (own : String) : List (Nat × Int32) → List Nat → Bool
  | [], _ => true
  | q :: L, i :: P => zk_at TB i (Cond.constant own q.1 q.2) && zk_T TB own L P
  | _ :: _, [] => false
def zk_nest (own : String) (i : Nat) (y : MethodName) : Option Cond → Bool
  | some (.methodLinkNest o j z _) => decide (o = own) && Nat.beq j i && decide (z = y)
  | _ => false
/-- one link: its own word; for a method: instanceMethod or static; selects -/
def zk_L1 (TB : List Cond) (cl : List vw_C) (MT : List zM) (own : String) (q : Nat × Nat × Nat) (i : Nat × Nat × Nat) : Bool := match q.2.1 with
  | 9 => zk_at TB i.1 (Cond.methodLink own q.1 Lib.objectInit)
  | 8 => zk_at TB i.1 (Cond.methodLink own q.1 arraycopyName)
  | k => (match MT[q.2.2]? with
    | some mm => (match k with
      | 0 => zk_at TB i.1 (Cond.methodLink own q.1 mm.1) && zk_at TB i.2.1 (Cond.instanceMethod mm.1) && zk_at TB i.2.2 (Cond.selects mm.1.cls mm.1 mm.1) && (match cl[mm.2.2.2.2.2]? with
        | some r => decide (r.1 = mm.1.cls)
        | none => false)
      | 1 => zk_at TB i.1 (Cond.methodLink own q.1 mm.1) && zk_at TB i.2.1 (Cond.static mm.1)
      | 2 => zk_at TB i.1 (Cond.methodLink own q.1 mm.1) && zk_at TB i.2.1 (Cond.instanceMethod mm.1) && decide (mm.1.name = "<init>") && mm.2.2.2.1.isNone
      | 3 => zk_nest own q.1 mm.1 (TB[i.1]?) && zk_at TB i.2.1 (Cond.instanceMethod mm.1) && decide (mm.1.name = "<init>") && mm.2.2.2.1.isNone
      | 4 => zk_nest own q.1 mm.1 (TB[i.1]?) && zk_at TB i.2.1 (Cond.static mm.1)
      | _ => false)
    | none => false)
def zk_L (TB : List Cond) (cl : List vw_C) (MT : List zM) (own : String) : List (Nat × Nat × Nat) → List (Nat × Nat × Nat) → Bool
  | [], _ => true
  | q :: L, i :: P => zk_L1 TB cl MT own q i && zk_L TB cl MT own L P
  | _ :: _, [] => false
/-- a method: code, initialized -/
def zk_ok1 (TB : List Cond) (mm : zM) : Prop := Cond.code mm.1 mm.2.1 mm.2.2.1 mm.2.2.2.1 ∈ TB.filter z_gw ∧ Cond.initialized mm.1.cls ∈ TB.filter z_gw ∧ (mm.1.cls ≠ "java/lang/invoke/MethodHandle" ∧ mm.1.cls ≠ "java/lang/invoke/VarHandle") ∧ (parseMethodDescriptor mm.1.desc).map (fun d => d.parameters.length) = some mm.2.2.2.2.1
/-- a class: its fields' words, types, names -/
def zk_cl (TB : List Cond) (FT : Nat → Nat → FieldType) (ci : Nat) (r : vw_C) (P : List Nat) : Bool :=
  (List.range r.2.2).all (fun k => (match P[k]? with
    | some i => zk_at TB i (u_lay r.1 r.2.1 k)
    | none => false) && decide (parseFieldDescriptor (r.2.1 k).2.2.1 = some (FT ci k)) && decide ((r.2.1 k).1 = r.1)) &&
  (List.range r.2.2).all (fun a => (List.range r.2.2).all (fun b => Nat.ble a b || decide ((r.2.1 a).2.1 ≠ (r.2.1 b).2.1)))
def zk_cls (TB : List Cond) (FT : Nat → Nat → FieldType) : Nat → List vw_C → List (List Nat) → Bool
  | _, [], _ => true
  | ci, r :: L, p :: P => zk_cl TB FT ci r p && zk_cls TB FT (ci + 1) L P
  | _, _ :: _, [] => false
section ZWORDS
variable {TB Ts : List Cond} {cl : List vw_C} {FT : Nat → Nat → FieldType} {MT : List zM} {own : String}
theorem zk_F_ok : ∀ {L : List (Nat × Nat × Nat)} {P : List Nat}, zk_F TB cl own L P = true → ∀ q ∈ L, ∃ r, cl[q.2.1]? = some r ∧ q.2.2 < r.2.2 ∧ Cond.fieldLink own q.1 (r.2.1 q.2.2).1 (r.2.1 q.2.2).2.1 (r.2.1 q.2.2).2.2.1 ∈ TB.filter z_gw
  | [], _, _, q, hq => absurd hq List.not_mem_nil
  | x :: L, [], h, q, hq => by cases h
  | x :: L, i :: P, h, q, hq => by
    unfold zk_F at h
    rw [Bool.and_eq_true] at h
    rcases List.mem_cons.mp hq with rfl | hq
    · have h1 := h.1
      split at h1
      · rename_i r hr
        rw [Bool.and_eq_true] at h1
        exact ⟨r, hr, z_blt h1.1, zk_at_ok h1.2⟩
      · cases h1
    · exact zk_F_ok h.2 q hq
theorem zk_C_ok : ∀ {L : List (Nat × Nat)} {P : List (Nat × Nat × Nat)}, zk_C TB cl own L P = true → ∀ q ∈ L, ∃ r, cl[q.2]? = some r ∧ Cond.classLink own q.1 r.1 ∈ TB.filter z_gw ∧ Cond.instantiable r.1 r.2.2 ∈ TB.filter z_gw ∧ Cond.initialized r.1 ∈ TB.filter z_gw
  | [], _, _, q, hq => absurd hq List.not_mem_nil
  | x :: L, [], h, q, hq => by cases h
  | x :: L, i :: P, h, q, hq => by
    unfold zk_C at h
    rw [Bool.and_eq_true] at h
    rcases List.mem_cons.mp hq with rfl | hq
    · have h1 := h.1
      split at h1
      · rename_i r hr
        simp only [Bool.and_eq_true] at h1
        exact ⟨r, hr, zk_at_ok h1.1.1, zk_at_ok h1.1.2, zk_at_ok h1.2⟩
      · cases h1
    · exact zk_C_ok h.2 q hq
theorem zk_T_ok : ∀ {L : List (Nat × Int32)} {P : List Nat}, zk_T TB own L P = true → ∀ q ∈ L, Cond.constant own q.1 q.2 ∈ TB.filter z_gw
  | [], _, _, q, hq => absurd hq List.not_mem_nil
  | x :: L, [], h, q, hq => by cases h
  | x :: L, i :: P, h, q, hq => by
    unfold zk_T at h
    rw [Bool.and_eq_true] at h
    rcases List.mem_cons.mp hq with rfl | hq
    · exact zk_at_ok h.1
    · exact zk_T_ok h.2 q hq
theorem zk_nest_ok {i : Nat} {y : MethodName} {o : Option Cond} (h : zk_nest own i y o = true) : ∃ host, o = some (Cond.methodLinkNest own i y host) := by
  unfold zk_nest at h
  split at h
  · rename_i o2 j z host
    simp only [Bool.and_eq_true] at h
    have h1 := of_decide_eq_true h.1.1
    have h2 := z_beq h.1.2
    have h3 := of_decide_eq_true h.2
    subst h1; subst h2; subst h3
    exact ⟨host, rfl⟩
  · cases h
theorem zk_L1_ok {q i : Nat × Nat × Nat} (hT : ∀ w ∈ TB.filter z_gw, w ∈ Ts) (hM : ∀ mm ∈ MT, zk_ok1 TB mm)
    (h9 : Cond.instanceMethod Lib.objectInit ∈ TB.filter z_gw ∧ Cond.code Lib.objectInit ⟨#[0xb1]⟩ 1 none ∈ TB.filter z_gw) (h8 : Cond.native arraycopyName ∈ TB.filter z_gw ∧ Cond.static arraycopyName ∈ TB.filter z_gw ∧ Cond.initialized "java/lang/System" ∈ TB.filter z_gw) (h : zk_L1 TB cl MT own q i = true) :
    (q.2.1 = 9 → Cond.methodLink own q.1 Lib.objectInit ∈ Ts ∧ Cond.instanceMethod Lib.objectInit ∈ Ts ∧ Cond.code Lib.objectInit ⟨#[0xb1]⟩ 1 none ∈ Ts) ∧ (q.2.1 = 8 → Cond.methodLink own q.1 arraycopyName ∈ Ts ∧ Cond.native arraycopyName ∈ Ts ∧ Cond.static arraycopyName ∈ Ts ∧ Cond.initialized "java/lang/System" ∈ Ts) ∧ (q.2.1 ≤ 4 → ∃ mm, MT[q.2.2]? = some mm ∧ z_lk Ts own q.2.1 q.1 mm.1 mm.2.1 mm.2.2.1 mm.2.2.2.1 mm.2.2.2.2.1 ∧ (q.2.1 = 0 → ∃ r, cl[mm.2.2.2.2.2]? = some r ∧ r.1 = mm.1.cls)) := by
  obtain ⟨a, k, j⟩ := q
  have key : ∀ k2 : Nat, k2 = k → k2 ≤ 4 → ∃ mm, MT[j]? = some mm ∧ z_lk Ts own k2 a mm.1 mm.2.1 mm.2.2.1 mm.2.2.2.1 mm.2.2.2.2.1 ∧ (k2 = 0 → ∃ r, cl[mm.2.2.2.2.2]? = some r ∧ r.1 = mm.1.cls) := by
    intro k2 hk hk3
    subst hk
    unfold zk_L1 at h
    have hne9 : k2 ≠ 9 := by omega
    have hne8 : k2 ≠ 8 := by omega
    split at h
    · rename_i h9; exact absurd h9 hne9
    · rename_i h8; exact absurd h8 hne8
    · split at h
      · rename_i mm hmm
        have hmm : MT[j]? = some mm := hmm
        obtain ⟨m1, m2, m3, m4⟩ := hM mm (List.mem_of_getElem? hmm)
        refine ⟨mm, hmm, ?_, ?_⟩
        · refine ⟨hT _ m1, hT _ m2, m3, m4, ?_⟩
          match k2, hk3, h with
          | 0, _, h =>
            simp only [Bool.and_eq_true] at h
            exact ⟨hT _ (zk_at_ok h.1.1.1), hT _ (zk_at_ok h.1.1.2), hT _ (zk_at_ok h.1.2)⟩
          | 1, _, h =>
            simp only [Bool.and_eq_true] at h
            exact ⟨hT _ (zk_at_ok h.1), hT _ (zk_at_ok h.2)⟩
          | 2, _, h =>
            simp only [Bool.and_eq_true] at h
            exact ⟨hT _ (zk_at_ok h.1.1.1), hT _ (zk_at_ok h.1.1.2), of_decide_eq_true h.1.2, Option.isNone_iff_eq_none.mp h.2⟩
          | 3, _, h =>
            simp only [Bool.and_eq_true] at h
            obtain ⟨host, hh⟩ := zk_nest_ok h.1.1.1
            exact ⟨⟨host, hT _ (List.mem_filter.mpr ⟨List.mem_of_getElem? hh, rfl⟩)⟩, hT _ (zk_at_ok h.1.1.2), of_decide_eq_true h.1.2, Option.isNone_iff_eq_none.mp h.2⟩
          | 4, _, h =>
            simp only [Bool.and_eq_true] at h
            obtain ⟨host, hh⟩ := zk_nest_ok h.1
            exact ⟨⟨host, hT _ (List.mem_filter.mpr ⟨List.mem_of_getElem? hh, rfl⟩)⟩, hT _ (zk_at_ok h.2)⟩
        · intro h0
          subst h0
          have h : (zk_at TB i.1 (Cond.methodLink own a mm.1) && zk_at TB i.2.1 (Cond.instanceMethod mm.1) && zk_at TB i.2.2 (Cond.selects mm.1.cls mm.1 mm.1) && (match cl[mm.2.2.2.2.2]? with
            | some r => decide (r.1 = mm.1.cls)
            | none => false)) = true := h
          rw [Bool.and_eq_true] at h
          have h2 := h.2
          split at h2
          · rename_i r hr
            exact ⟨r, hr, of_decide_eq_true h2⟩
          · cases h2
      · cases h
  refine ⟨fun e => ?_, fun e => ?_, fun e => key k rfl e⟩
  · have e : k = 9 := e
    subst e
    exact ⟨hT _ (zk_at_ok h), hT _ h9.1, hT _ h9.2⟩
  · have e : k = 8 := e
    subst e
    exact ⟨hT _ (zk_at_ok h), hT _ h8.1, hT _ h8.2.1, hT _ h8.2.2⟩
theorem zk_L_ok {P2 : Nat × Nat × Nat → Prop} (hp : ∀ q i, zk_L1 TB cl MT own q i = true → P2 q) : ∀ {L P : List (Nat × Nat × Nat)}, zk_L TB cl MT own L P = true → ∀ q ∈ L, P2 q
  | [], _, _, q, hq => absurd hq List.not_mem_nil
  | x :: L, [], h, q, hq => by cases h
  | x :: L, i :: P, h, q, hq => by
    unfold zk_L at h
    rw [Bool.and_eq_true] at h
    rcases List.mem_cons.mp hq with rfl | hq
    · exact hp _ _ h.1
    · exact zk_L_ok hp h.2 q hq
theorem zk_cls_ok : ∀ {L : List vw_C} {ci : Nat} {P : List (List Nat)}, zk_cls TB FT ci L P = true → ∀ k r, L[k]? = some r → ∃ p, zk_cl TB FT (ci + k) r p = true
  | [], _, _, _, k, r, h => by simp at h
  | x :: L, ci, [], h, k, r, hk => by cases h
  | x :: L, ci, p :: P, h, k, r, hk => by
    unfold zk_cls at h
    rw [Bool.and_eq_true] at h
    cases k with
    | zero =>
      have : x = r := by simpa using hk
      subst this
      exact ⟨p, h.1⟩
    | succ k =>
      obtain ⟨p2, h2⟩ := zk_cls_ok h.2 k r (by simpa using hk)
      exact ⟨p2, by rw [show ci + (k + 1) = ci + 1 + k by omega]; exact h2⟩
theorem zk_ks {PC : List (List Nat)} (hc : zk_cls TB FT 0 cl PC = true) (hm : ∀ mm ∈ MT, zk_ok1 TB mm) (h9 : Cond.instanceMethod Lib.objectInit ∈ TB.filter z_gw ∧ Cond.code Lib.objectInit ⟨#[0xb1]⟩ 1 none ∈ TB.filter z_gw) (h8 : Cond.native arraycopyName ∈ TB.filter z_gw ∧ Cond.static arraycopyName ∈ TB.filter z_gw ∧ Cond.initialized "java/lang/System" ∈ TB.filter z_gw) (ha : ∀ k, k < 3 → Cond.arrayClass (z_ek k) ∈ TB.filter z_gw)
    {KF KL : List (Nat × Nat × Nat)} {KC : List (Nat × Nat)} {KT : List (Nat × Int32)} {pF pT : List Nat} {pC pL : List (Nat × Nat × Nat)} (hF : zk_F TB cl own KF pF = true) (hC : zk_C TB cl own KC pC = true) (hL : zk_L TB cl MT own KL pL = true) (hT : zk_T TB own KT pT = true)
    (Ts : List Cond) (hTs : ∀ w ∈ TB.filter z_gw, w ∈ Ts) (CA NA : List (Nat × Nat)) (AC : List (Nat × Nat × Nat × Int)) (IN : Option Nat) (hin : ∀ j r, IN = some j → cl[j]? = some r → r.1 = own) : z_KS Ts (TB.filter z_gw) cl FT own MT (KF, KC, KL, KT, CA, NA, AC, IN) := by
  refine ⟨⟨fun ci r hr => ?_, fun q hq => ?_⟩, fun q hq => ?_, zk_L_ok (P2 := fun q => (q.2.1 = 9 → _) ∧ (q.2.1 = 8 → _) ∧ (q.2.1 ≤ 4 → _)) (fun q i h => zk_L1_ok hTs hm h9 h8 h) hL, fun q hq => hTs _ (zk_T_ok hT q hq), fun k hk => hTs _ (ha k hk), fun w hw => ⟨hTs _ hw, (List.mem_filter.mp hw).2⟩, fun j r h1 h2 => hin j r h1 h2⟩
  · obtain ⟨p, hp⟩ := zk_cls_ok hc ci r hr
    rw [Nat.zero_add] at hp
    unfold zk_cl at hp
    rw [Bool.and_eq_true] at hp
    obtain ⟨p1, p2⟩ := hp
    have one : ∀ k, k < r.2.2 → u_lay r.1 r.2.1 k ∈ TB.filter z_gw ∧ parseFieldDescriptor (r.2.1 k).2.2.1 = some (FT ci k) ∧ (r.2.1 k).1 = r.1 := by
      intro k hk
      have h := List.all_eq_true.mp p1 k (List.mem_range.mpr hk)
      simp only [Bool.and_eq_true] at h
      refine ⟨?_, of_decide_eq_true h.1.2, of_decide_eq_true h.2⟩
      have h1 := h.1.1
      split at h1
      · exact zk_at_ok h1
      · cases h1
    have lt : ∀ a b, b < a → a < r.2.2 → (r.2.1 a).2.1 ≠ (r.2.1 b).2.1 := by
      intro a b hab ha2
      have h := List.all_eq_true.mp (List.all_eq_true.mp p2 a (List.mem_range.mpr ha2)) b (List.mem_range.mpr (by omega))
      rw [Bool.or_eq_true] at h
      rcases h with h | h
      · have := Nat.le_of_ble_eq_true h
        omega
      · exact of_decide_eq_true h
    refine ⟨fun w hw => ?_, fun k hk => (one k hk).2.1, fun a ha2 b hb hab => ?_, fun k hk => (one k hk).2.2⟩
    · obtain ⟨k, hk, rfl⟩ := List.mem_map.mp hw
      exact hTs _ (one k (List.mem_range.mp hk)).1
    · rcases Nat.lt_or_ge b a with h | h
      · exact lt a b h ha2
      · exact fun e => lt b a (by omega) hb e.symm
  · obtain ⟨r, h1, h2, h3⟩ := zk_F_ok hF q hq
    exact ⟨r, h1, h2, hTs _ h3⟩
  · obtain ⟨r, h1, h2, h3, h4⟩ := zk_C_ok hC q hq
    exact ⟨r, h1, hTs _ h2, hTs _ h3, hTs _ h4⟩
/-- a contract of SG, by its method's place -/
theorem z_lnk {TBL : List Cond} {TY : List zTy} {PHI : List (List Nat)} {KXf : (Nat → Nat) → Nat → State → Heap → Prop} {i : Nat} {mm : zM} {g : zSig} (hm : MT[i]? = some mm) (h : z_OK TBL cl FT TY PHI KXf mm.1 mm.2.1 mm.2.2.1 mm.2.2.2.1 g) : ∀ m2, MT[(i, g).1]? = some m2 → z_OK TBL cl FT TY PHI KXf m2.1 m2.2.1 m2.2.2.1 m2.2.2.2.1 (i, g).2 := by
  intro m2 h2
  have h2 : MT[i]? = some m2 := h2
  rw [hm] at h2
  cases h2
  exact h
theorem z_fil {P2 : Nat × zSig → Prop} {SG : List (Nat × zSig)} (CA : List (Nat × Nat)) (h : ∀ g ∈ SG, P2 g) : ∀ g ∈ CA.filterMap (fun a => SG[a.2]?), P2 g := by
  intro g hg
  obtain ⟨a, _, ha⟩ := List.mem_filterMap.mp hg
  exact h g (List.mem_of_getElem? ha)
end ZWORDS
end
section
/-! A contract with its ends told as one: the answer alone. -/
def z_rle : Option zV → Option zV → Bool
  | none, none => true
  | some c, some d => z_le c d
  | _, _ => false
abbrev z_wk (g : zSig) (r : Option zV) : zSig := (g_prm g, g_raw g, g_loc g, [([], r, [], [])], g_pur g, g_mk g, g_rm g, g_ph g)
theorem z_weak {TBL : List Cond} {cl : List vw_C} {FT : Nat → Nat → FieldType} {TY : List zTy} {PHI : List (List Nat)} {KXf : (Nat → Nat) → Nat → State → Heap → Prop} {y : MethodName} {bytes : ByteArray} {maxL : Nat} {ret : Option FieldType} {g : zSig} {r : Option zV} (hr : (g_pst g).all (fun P => z_rle P.2.1 r) = true) (h : z_OK TBL cl FT TY PHI KXf y bytes maxL ret g) : z_OK TBL cl FT TY PHI KXf y bytes maxL ret (z_wk g r) := by
  intro l OB D DA sz T
  refine MetFree.mono (h l OB D DA sz T) (fun _ _ h => h) (fun _ _ _ _ _ h => h) (fun a s o s' _ hq => ⟨?_, hq.2⟩)
  obtain ⟨vals, v, T', a1, a2, a3, a4, a5, a6, a7, a8, a9, P, hP, c1, c2, c3, c4⟩ := hq.1
  refine ⟨vals, v, T', a1, a2, a3, a4, a5, a6, a7, a8, a9, ([], r, [], []), List.mem_singleton.mpr rfl, fun q hq => absurd hq List.not_mem_nil, ?_, fun q hq => absurd hq List.not_mem_nil, fun i q h _ hh => by cases hh⟩
  have h1 := List.all_eq_true.mp hr P hP
  cases hp : P.2.1 with
  | none =>
    rw [hp] at h1 c2
    cases r with
    | none => exact c2
    | some d => cases h1
  | some c =>
    rw [hp] at h1 c2
    cases r with
    | none => cases h1
    | some d =>
      cases v with
      | none => exact c2
      | some x => exact z_le_ok h1 c2
end
section
/-! The law's body over many calls: an induction over i; the state at the loop's head has the symbols script, L, i, x, m; behind them six ghosts: the ints of this call. -/
def zm_ex (R : List (Nat × Nat × Int)) (d e : Nat) : Option Int := match z_lbs R 6 d e, z_lbs R 6 e d with
  | some a, some b => cond (z_ile a (-b) && z_ile (-b) a) (some a) none
  | _, _ => none
def zm_rd (cc : ByteArray) : zHk := fun pc st => match decode cc pc with
  | .ok (.arraylength, 1) => (match z_S st with
    | d :: S => (match z_get (z_V st) d with
      | some (.inr (.inr 1)) => some [(pc + 1, z_stS st (1 :: S))]
      | _ => none)
    | _ => none)
  | .ok (.iaload, 1) => (match z_S st with
    | j :: d :: S => (match z_get (z_V st) d, zm_ex (z_R st) j 2, z_isi st j with
      | some (.inr (.inr 1)), some c, true => cond (z_ile 0 c && z_ile c 5 && (match z_lbs (z_R st) 6 1 j with
        | some k => z_ile 1 k
        | none => false)) (some [(pc + 1, z_stS st ((5 + c.toNat) :: S))]) none
      | _, _, _ => none)
    | _ => none)
  | _ => none
def zm_fit (hd : zS) (iv : zS → Nat → Bool) (cur : zS) : Bool := match z_loc (z_L cur) 0, z_loc (z_L cur) 1, z_loc (z_L cur) 2, z_loc (z_L cur) 3 with
  | some d0, some d1, some d2, some d3 => Nat.beq d0 0 && iv cur d3 && z_sub2 cur hd [0, 1, d3, d1, d2]
  | _, _, _, _ => false
/-- i is 6 more than symbol 2 -/
def zm_iv6 (cur : zS) (d : Nat) : Bool := z_isi cur d && (match zm_ex (z_R cur) d 2 with
  | some k => z_ile 6 k && z_ile k 6
  | none => false)
def zm_iv0 (cur : zS) (d : Nat) : Bool := match z_get (z_V cur) d with
  | some (.inl r) => z_ile 0 r.1 && z_ile r.2 0
  | _ => false
def zm_hk (cc : ByteArray) (hd : zS) (hpc : Nat) (iv : zS → Nat → Bool) : zHk := fun pc st => cond (Nat.beq pc hpc && zm_fit hd iv st) (some []) (zm_rd cc pc st)
/-- what the guards are -/
def zm_at (b L i : Nat) (xs : Nat → Int32) (env : List Value) : Prop := env[0]? = some (.ref b) ∧ env[1]? = some (.int (Int32.ofNat L)) ∧ env[2]? = some (.int (Int32.ofNat i)) ∧ ∀ c, c < 6 → env[5 + c]? = some (.int (xs (i + c)))
section ZLOOP
variable {p : Program} {l : Launch} {e : Env} {R : Room} {s : State} {m : MethodId} {args : Array Value} {below : List Frame} {meth : Method} {c : Code} {Q : State → Prop} {cc : ByteArray} {pc : Nat}
variable {OB : Nat → Nat} {D : va_G} {DA : Nat → ClassId} {cl : List vw_C} {FT : Nat → Nat → FieldType} {TY : List zTy} {PHI : List (List Nat)} {sz : Nat} {T0 : zTp} {env0 : List Value} {nL : Nat} {st : zS} {good : Nat → zS → Prop}
variable {b L i : Nat} {xs : Nat → Int32}
theorem zm_ex_ok {Rr : List (Nat × Nat × Int)} {env : List Value} (hr : z_fr env Rr) {d f : Nat} {k : Int} {vd ve : Int32} (h : zm_ex Rr d f = some k) (h1 : env[d]? = some (.int vd)) (h2 : env[f]? = some (.int ve)) : vd.toInt = ve.toInt + k := by
  unfold zm_ex at h
  split at h
  · rename_i a b' ha hb
    obtain ⟨hc, rfl⟩ := z_cond h
    rw [Bool.and_eq_true] at hc
    have c1 := z_ile_ok hc.1
    have c2 := z_ile_ok hc.2
    obtain ⟨v1, g1, g2⟩ := z_lbs_ok hr ha h1
    obtain ⟨v2, g3, g4⟩ := z_lbs_ok hr hb h2
    rw [h2] at g1
    cases g1
    rw [h1] at g3
    cases g3
    omega
  · cases h
theorem zm_rd_ok (hg : z_Good p l e R s m args below meth c Q OB D DA cl TY PHI sz none false T0 s.heap env0 nL good) (hx : p.tables.exec = Jvm.exec) (hb : c.code = cc) (hX : va_X b L xs s s.heap) (hbl : b < s.heap.size) (hsz : sz = s.heap.size) (hL : L < 2147483648) (hi : i < 2147483648) (hOB : OB 0 = b) (he : zm_at b L i xs env0)
    {Ls : List (Nat × zS)} (h : zm_rd cc pc st = some Ls) (hall : ∀ q ∈ Ls, good q.1 q.2) : good pc st := by
  have hbA : ¬ sz ≤ b := by omega
  have h0 : ∀ {env : List Value} {k : Nat} {v : Value}, (∃ w, env = env0 ++ w) → env0[k]? = some v → env[k]? = some v := by
    intro env k v hw hv
    obtain ⟨w, rfl⟩ := hw
    exact z_app hv
  unfold zm_rd at h
  split at h
  · rename_i hd
    split at h
    · rename_i d S hS
      split at h
      · rename_i hV
        cases h
        have k0 : good (pc + 1) (z_stS st (1 :: S)) := hall _ (List.mem_singleton.mpr rfl)
        refine (hg _ _).mpr fun T H locs env ls stk hs => ?_
        obtain ⟨v, kk, rfl, e1, hk⟩ := z_stk_cons hS hs.2.2.2.1
        obtain ⟨v2, e2, e3⟩ := z_get_ok hs.2.2.2.2.1 hV
        rw [e1] at e2
        cases e2
        have e3 : v = .ref (OB 0) := e3
        rw [hOB] at e3
        subst e3
        have hmem := hs.2.2.2.2.2.2.2.2.2
        refine va_slen hx hb hX hbl hbA hmem.2.2.2.2 hd ?_
        exact (hg _ _).mp k0 T H locs env ls _ (z_sat_stS hs ⟨_, kk, rfl, h0 hs.2.1 he.2.1, hk⟩)
      · cases h
    · cases h
  · rename_i hd
    split at h
    · rename_i j d S hS
      split at h
      · rename_i k hV hE hI
        cases hc : (z_ile 0 k && z_ile k 5 && (match z_lbs (z_R st) 6 1 j with
          | some k => z_ile 1 k
          | none => false)) with
        | false => rw [hc] at h; cases h
        | true =>
          rw [hc] at h
          cases h
          simp only [Bool.and_eq_true] at hc
          obtain ⟨⟨c1, c2⟩, c4⟩ := hc
          have c1 := z_ile_ok c1
          have c2 := z_ile_ok c2
          have k0 : good (pc + 1) (z_stS st ((5 + k.toNat) :: S)) := hall _ (List.mem_singleton.mpr rfl)
          refine (hg _ _).mpr fun T H locs env ls stk hs => ?_
          obtain ⟨vj, kk, rfl, e1, hk⟩ := z_stk_cons hS hs.2.2.2.1
          obtain ⟨vd, kk2, rfl, f1, hk2⟩ := hk
          obtain ⟨y, e2⟩ := z_isi_ok hI hs
          rw [e1] at e2
          cases e2
          obtain ⟨v3, f2, f3⟩ := z_get_ok hs.2.2.2.2.1 hV
          rw [f1] at f2
          cases f2
          have f3 : vd = .ref (OB 0) := f3
          rw [hOB] at f3
          subst f3
          have hmem := hs.2.2.2.2.2.2.2.2.2
          have hLv : env[1]? = some (.int (Int32.ofNat L)) := h0 hs.2.1 he.2.1
          have hiv : env[2]? = some (.int (Int32.ofNat i)) := h0 hs.2.1 he.2.2.1
          have hLi : (Int32.ofNat L).toInt = (L : Int) := Int32.toInt_ofNat_of_lt (by omega)
          have hii : (Int32.ofNat i).toInt = (i : Int) := Int32.toInt_ofNat_of_lt (by omega)
          have hy := zm_ex_ok hs.2.2.2.2.2.2.2.1 hE e1 hiv
          split at c4
          · rename_i k4 hk4
            have c4 := z_ile_ok c4
            obtain ⟨vx, g1, g2⟩ := z_lbs_ok hs.2.2.2.2.2.2.2.1 hk4 hLv
            rw [e1] at g1
            cases g1
            have hcl : y.toNatClampNeg = i + k.toNat := by show y.toInt.toNat = _; omega
            have hin : vp_in y L := by
              intro hh
              rcases hh with hh | hh
              · have := Int32.lt_iff_toInt_lt.mp hh
                have e0 : (0 : Int32).toInt = 0 := rfl
                omega
              · rw [hcl] at hh
                omega
            refine va_sld hx hb hX hbl hbA hmem.2.2.2.2 hin hd ?_
            rw [hcl]
            exact (hg _ _).mp k0 T H locs env ls _ (z_sat_stS hs ⟨_, kk2, rfl, h0 hs.2.1 (he.2.2.2 k.toNat (by omega)), hk2⟩)
          · cases c4
      · cases h
    · cases h
  · cases h
/-- the head is reached again -/
theorem zm_fit_ok {hd : zS} {hpc i' : Nat} {iv : zS → Nat → Bool} (hn : z_n hd = 5) (hg : z_Good p l e R s m args below meth c Q OB D DA cl TY PHI sz none false T0 s.heap env0 nL good) (hb0 : env0[0]? = some (.ref b)) (hb1 : env0[1]? = some (.int (Int32.ofNat L)))
    (hiv : ∀ T H locs env ls stk d, z_sat OB D DA cl TY PHI sz none false T0 s.heap env0 nL st T H locs env ls stk → iv st d = true → env[d]? = some (.int (Int32.ofNat i')))
    (hIH : ∀ T H locs env ls stk, env[0]? = some (.ref b) → env[1]? = some (.int (Int32.ofNat L)) → env[2]? = some (.int (Int32.ofNat i')) → z_sat OB D DA cl TY PHI sz none false T0 s.heap env nL hd T H locs env ls stk → W p l e R s m args below meth c H locs (z_C hd).1 (z_C hd).2 Q (F0 m hpc ls stk))
    (h : zm_fit hd iv st = true) : good hpc st := by
  refine (hg _ _).mpr fun T H locs env ls stk hs => ?_
  unfold zm_fit at h
  split at h
  · rename_i d0 d1 d2 d3 h0 h1 h2 h3
    simp only [Bool.and_eq_true] at h
    obtain ⟨⟨-, hi3⟩, hsub⟩ := h
    obtain ⟨c1, c2, env3, c3, c4⟩ := z_sub2_ok hsub hs
    obtain ⟨w, hw⟩ := hs.2.1
    have hh : ∀ {k : Nat} {v : Value}, env0[k]? = some v → env[k]? = some v := fun hv => by rw [hw]; exact z_app hv
    refine W.widen c1 c2 (hIH T H locs env3 ls stk ?_ ?_ ?_ c4)
    · rw [c3 0 0 rfl]; exact hh hb0
    · rw [c3 1 1 rfl]; exact hh hb1
    · rw [c3 2 d3 rfl]; exact hiv T H locs env ls stk d3 hs hi3
  · cases h
end ZLOOP
end
section
/-! The loop's induction, and the start. -/
def zl_fin (mc ms : Nat) (st : zS) : Bool := (match z_S st with
  | [r] => (match z_get (z_V st) r with
    | some (.inl a) => z_ile 1 a.1 && z_ile a.2 1
    | _ => false)
  | _ => false) && Nat.ble (z_C st).1 mc && Nat.ble (z_C st).2 ms
def zm_hB (hd : zS) : zS := (z_L hd, z_S hd, 11, [(5, .inl z_full), (6, .inl z_full), (7, .inl z_full), (8, .inl z_full), (9, .inl z_full), (10, .inl z_full)] ++ z_V hd, z_F hd, z_E hd, z_R hd, z_X hd, z_C hd, z_ph hd)
def zm_stp (TY : List zTy) (PHI : List (List Nat)) (cl : List vw_C) (FT : Nat → Nat → FieldType) (MT : List zM) (SG : List (Nat × zSig)) (PHS : List Nat) (R : Room) (nL mc ms : Nat) (cc : ByteArray) (K : zK) (hk : zHk) : Nat → zS → Option (List (Nat × zS)) := z_hst hk (z_stp TY PHI cl FT MT SG [] PHS R false nL K cc (fun _ => false) (zl_fin mc ms))
def zm_hs (hd : zS) (hpc : Nat) : zHk := fun pc st => cond (Nat.beq pc hpc && zm_fit hd zm_iv0 st) (some []) none
def zm_chk0 (TY : List zTy) (PHI : List (List Nat)) (cl : List vw_C) (FT : Nat → Nat → FieldType) (MT : List zM) (SG : List (Nat × zSig)) (PHS : List Nat) (R : Room) (nL mc ms : Nat) (cc : ByteArray) (ce : zCe) (hd : zS) (hpc : Nat) : Bool := z_run (zm_stp TY PHI cl FT MT SG PHS R nL mc ms cc ce.1 (zm_hk cc hd hpc zm_iv6)) (z_cut ce.2.1 11 none) ce.2.2 hpc (zm_hB hd)
def zm_chkP (TY : List zTy) (PHI : List (List Nat)) (cl : List vw_C) (FT : Nat → Nat → FieldType) (MT : List zM) (SG : List (Nat × zSig)) (PHS : List Nat) (R : Room) (nL mc ms : Nat) (cc : ByteArray) (ce : zCe) (hd : zS) (hpc : Nat) (P : List zCu) : Bool := P.all (fun k => k.2.2.2.2.all (fun q => Nat.blt q.1 (z_n k.2.1)) && z_run (zm_stp TY PHI cl FT MT SG PHS R nL mc ms cc ce.1 (zm_hk cc hd hpc zm_iv6)) (z_cut ce.2.1 11 (some k.2.2.2)) ce.2.2 k.1 k.2.1)
def zm_st0 (N : Int) : zS := ([(0, 0)], [], 2, [(0, .inr (.inr 1)), (1, .inl (0, N))], [], [], [], [], (0, 0), 0)
def zm_chkS (TY : List zTy) (PHI : List (List Nat)) (cl : List vw_C) (FT : Nat → Nat → FieldType) (MT : List zM) (SG : List (Nat × zSig)) (PHS : List Nat) (R : Room) (nL mc ms : Nat) (cc : ByteArray) (ce : zCe) (hd : zS) (hpc : Nat) (N : Int) : Bool := z_run (zm_stp TY PHI cl FT MT SG PHS R nL mc ms cc ce.1 (zm_hs hd hpc)) (z_cut [] 2 none) ce.2.2 0 (zm_st0 N)
section ZLOOP2
variable {p : Program} {l : Launch} {e : Env} {R : Room} {s : State} {m : MethodId} {args : Array Value} {below : List Frame} {meth : Method} {c : Code} {Q : State → Prop} {cc : ByteArray} {pc : Nat}
variable {OB : Nat → Nat} {D : va_G} {DA : Nat → ClassId} {cl : List vw_C} {FT : Nat → Nat → FieldType} {TY : List zTy} {PHI : List (List Nat)} {sz : Nat} {T0 : zTp} {env0 : List Value} {nL : Nat} {st : zS} {KXf : (Nat → Nat) → Nat → State → Heap → Prop} {good : Nat → zS → Prop}
variable {TBL : List Cond} {own : String} {MT : List zM} {SG : List (Nat × zSig)} {PHS : List Nat} {ce : zCe} {mc ms : Nat} {b L N : Nat} {xs : Nat → Int32} {hd : zS} {hpc : Nat}
theorem zm_chkP_app {A B : List zCu} (h1 : zm_chkP TY PHI cl FT MT SG PHS R nL mc ms cc ce hd hpc A = true) (h2 : zm_chkP TY PHI cl FT MT SG PHS R nL mc ms cc ce hd hpc B = true) : zm_chkP TY PHI cl FT MT SG PHS R nL mc ms cc ce hd hpc (A ++ B) = true := by
  show (A ++ B).all _ = true
  rw [List.all_append, Bool.and_eq_true]
  exact ⟨h1, h2⟩
theorem zl_fin_ok (hg : z_Good p l e R s m args below meth c Q OB D DA cl TY PHI sz none false T0 s.heap env0 nL good) (hsz : sz = s.heap.size) (hend : ∀ pc H ls, decode cc pc = .ok (.ireturn, 1) → W p l e R s m args below meth c H [] mc ms Q (F0 m pc ls [.int 1])) (hd : decode cc pc = .ok (.ireturn, 1)) (h : zl_fin mc ms st = true) : good pc st := by
  refine (hg _ _).mpr fun T H locs env ls stk hs => ?_
  unfold zl_fin at h
  simp only [Bool.and_eq_true] at h
  obtain ⟨⟨h1, h2⟩, h3⟩ := h
  split at h1
  · rename_i r hS
    split at h1
    · rename_i a ha
      rw [Bool.and_eq_true] at h1
      have a1 := z_ile_ok h1.1
      have a2 := z_ile_ok h1.2
      obtain ⟨v, k, rfl, e1, hk⟩ := z_stk_cons hS hs.2.2.2.1
      have hk : k = [] := hk
      subst hk
      obtain ⟨v2, e2, x, rfl, hx⟩ := z_get_ok hs.2.2.2.2.1 ha
      rw [e1] at e2
      cases e2
      have hx1 : x = 1 := Int32.toInt.inj (by have := hx.1; have := hx.2; have e0 : (1 : Int32).toInt = 1 := rfl; omega)
      subst hx1
      have hmem := hs.2.2.2.2.2.2.2.2.2
      have := W.forget (locs := []) (L := locs) (fun q hq => by have := hmem.2.2.2.2.2.2 q hq; omega) (hend pc H ls hd)
      exact W.widen (Nat.le_of_ble_eq_true h2) (Nat.le_of_ble_eq_true h3) this
    · cases h1
  · cases h1
theorem zm_iv6_ok {i : Nat} (hi : i < 2147483000) (hs : ∀ T H locs env ls stk, z_sat OB D DA cl TY PHI sz none false T0 s.heap env0 nL st T H locs env ls stk → env[2]? = some (.int (Int32.ofNat i))) : ∀ T H locs env ls stk d, z_sat OB D DA cl TY PHI sz none false T0 s.heap env0 nL st T H locs env ls stk → zm_iv6 st d = true → env[d]? = some (.int (Int32.ofNat (i + 6))) := by
  intro T H locs env ls stk d h hv
  unfold zm_iv6 at hv
  rw [Bool.and_eq_true] at hv
  obtain ⟨h1, h2⟩ := hv
  obtain ⟨x, hx⟩ := z_isi_ok h1 h
  split at h2
  · rename_i k hk
    rw [Bool.and_eq_true] at h2
    have k1 := z_ile_ok h2.1
    have k2 := z_ile_ok h2.2
    have := zm_ex_ok h.2.2.2.2.2.2.2.1 hk hx (hs T H locs env ls stk h)
    have e1 : (Int32.ofNat i).toInt = (i : Int) := Int32.toInt_ofNat_of_lt (by omega)
    have e2 : (Int32.ofNat (i + 6)).toInt = ((i + 6 : Nat) : Int) := Int32.toInt_ofNat_of_lt (by omega)
    rw [hx]
    have : x = Int32.ofNat (i + 6) := Int32.toInt_inj.mp (by rw [e2]; omega)
    rw [this]
  · cases h2
/-- one call after the other -/
theorem zm_loop (hx : p.tables.exec = Jvm.exec) (hb : c.code = cc) (hml : c.maxLocals = nL) (hX : va_X b L xs s s.heap) (hbl : b < s.heap.size) (hN : N ≤ 100000) (hL : L ≤ N) (hOB : OB 0 = b) (hD : z_Dy s m args TBL own D cl DA (z_tys DA)) (hXp : z_KXp s.heap.size (KXf OB s.heap.size)) (hKX : KXf OB s.heap.size s s.heap) (hKS : z_KS TBL TBL cl FT own MT ce.1) (hin : k_IN ce.1 = none) (hPH : ∀ a ∈ PHS, z_phok TY PHI a = true)
    (hok : ∀ g ∈ (k_CA ce.1).filterMap (fun a => SG[a.2]?), ∀ m2, MT[g.1]? = some m2 → z_OK TBL cl FT TY PHI KXf m2.1 m2.2.1 m2.2.2.1 m2.2.2.2.1 g.2) (hend : ∀ pc H ls, decode cc pc = .ok (.ireturn, 1) → W p l e R s m args below meth c H [] mc ms Q (F0 m pc ls [.int 1]))
    (hn : z_n hd = 5) (hV : (2, Sum.inl ((0 : Int), (N : Int))) ∈ z_V hd) (h0 : zm_chk0 TY PHI cl FT MT SG PHS R nL mc ms cc ce hd hpc = true) (hP : zm_chkP TY PHI cl FT MT SG PHS R nL mc ms cc ce hd hpc ce.2.1 = true) :
    ∀ k i, i < 2147482000 → N + 1 - i ≤ k → ∀ T H locs env ls stk, env[0]? = some (.ref b) → env[1]? = some (.int (Int32.ofNat L)) → env[2]? = some (.int (Int32.ofNat i)) → z_sat OB D DA cl TY PHI s.heap.size none false (fun _ => none) s.heap env nL hd T H locs env ls stk → W p l e R s m args below meth c H locs (z_C hd).1 (z_C hd).2 Q (F0 m hpc ls stk) := by
  intro k
  induction k with
  | zero =>
    intro i hi hk T H locs env ls stk e0 e1 e2 hs
    obtain ⟨v, g1, x, rfl, g2⟩ := hs.2.2.2.2.1 _ hV
    have g1 : env[2]? = some (.int x) := g1
    rw [e2] at g1
    cases g1
    have ei : (Int32.ofNat i).toInt = (i : Int) := Int32.toInt_ofNat_of_lt (by omega)
    have := g2.2
    rw [ei] at this
    have : (i : Int) ≤ (N : Int) := this
    omega
  | succ k ih =>
    intro i hi hk T H locs env ls stk e0 e1 e2 hs
    obtain ⟨v, g1, x, rfl, g2⟩ := hs.2.2.2.2.1 _ hV
    have g1 : env[2]? = some (.int x) := g1
    rw [e2] at g1
    cases g1
    have ei : (Int32.ofNat i).toInt = (i : Int) := Int32.toInt_ofNat_of_lt (by omega)
    have hiN : (i : Int) ≤ (N : Int) := by have := g2.2; rw [ei] at this; exact this
    have hlen : env.length = 5 := hs.1.trans hn
    have gv : ∀ j, j < 6 → (env ++ [Value.int (xs i), .int (xs (i + 1)), .int (xs (i + 2)), .int (xs (i + 3)), .int (xs (i + 4)), .int (xs (i + 5))])[5 + j]? = some (.int (xs (i + j))) := by
      intro j hj
      rw [List.getElem?_append_right (by omega), hlen, Nat.add_sub_cancel_left]
      match j, hj with
      | 0, _ => rfl
      | 1, _ => rfl
      | 2, _ => rfl
      | 3, _ => rfl
      | 4, _ => rfl
      | 5, _ => rfl
    have full : ∀ x : Int32, z_v OB T (.inl z_full) (.int x) := fun x => ⟨x, rfl, z_in_full x⟩
    have hs2 : z_sat OB D DA cl TY PHI s.heap.size none false (fun _ => none) s.heap (env ++ [Value.int (xs i), .int (xs (i + 1)), .int (xs (i + 2)), .int (xs (i + 3)), .int (xs (i + 4)), .int (xs (i + 5))]) nL (zm_hB hd) T H locs (env ++ [Value.int (xs i), .int (xs (i + 1)), .int (xs (i + 2)), .int (xs (i + 3)), .int (xs (i + 4)), .int (xs (i + 5))]) ls stk := by
      refine ⟨by rw [List.length_append, hlen]; rfl, ⟨[], by rw [List.append_nil]⟩, z_ls_app hs.2.2.1, z_stk_app hs.2.2.2.1, fun q hq => ?_, z_ff_app hs.2.2.2.2.2.1, z_fe_app hs.2.2.2.2.2.2.1, z_fr_app hs.2.2.2.2.2.2.2.1, z_fx_app hs.2.2.2.2.2.2.2.2.1, hs.2.2.2.2.2.2.2.2.2⟩
      rcases List.mem_append.mp hq with hq | hq
      · rcases List.mem_cons.mp hq with rfl | hq
        · exact ⟨_, gv 0 (by omega), full _⟩
        rcases List.mem_cons.mp hq with rfl | hq
        · exact ⟨_, gv 1 (by omega), full _⟩
        rcases List.mem_cons.mp hq with rfl | hq
        · exact ⟨_, gv 2 (by omega), full _⟩
        rcases List.mem_cons.mp hq with rfl | hq
        · exact ⟨_, gv 3 (by omega), full _⟩
        rcases List.mem_cons.mp hq with rfl | hq
        · exact ⟨_, gv 4 (by omega), full _⟩
        rcases List.mem_cons.mp hq with rfl | hq
        · exact ⟨_, gv 5 (by omega), full _⟩
        cases hq
      · exact z_fv_app hs.2.2.2.2.1 q hq
    have hat : zm_at b L i xs (env ++ [Value.int (xs i), .int (xs (i + 1)), .int (xs (i + 2)), .int (xs (i + 3)), .int (xs (i + 4)), .int (xs (i + 5))]) := ⟨z_app e0, z_app e1, z_app e2, gv⟩
    refine z_runs (ng := 11) (ends := zm_at b L i xs) (fun env1 env2 he hgh => ?_) (fun env1 pc st Ls he hL2 hall => ?_) hP h0 hat (by rw [List.length_append, hlen]; exact Nat.le_refl _) hs2
    · exact ⟨(hgh 0 (by omega)).trans he.1, (hgh 1 (by omega)).trans he.2.1, (hgh 2 (by omega)).trans he.2.2.1, fun j hj => (hgh (5 + j) (by omega)).trans (he.2.2.2 j hj)⟩
    · have hgg : z_Good p l e R s m args below meth c Q OB D DA cl TY PHI s.heap.size none false (fun _ => none) s.heap env1 nL (fun pc st => ∀ T2 H2 locs2 env2 ls2 stk2, z_sat OB D DA cl TY PHI s.heap.size none false (fun _ => none) s.heap env1 nL st T2 H2 locs2 env2 ls2 stk2 → W p l e R s m args below meth c H2 locs2 (z_C st).1 (z_C st).2 Q (F0 m pc ls2 stk2)) := fun _ _ => Iff.rfl
      unfold zm_stp z_hst at hL2
      split at hL2
      · rename_i L3 hL3
        cases hL2
        unfold zm_hk at hL3
        cases hc : (Nat.beq pc hpc && zm_fit hd zm_iv6 st) with
        | true =>
          rw [Bool.and_eq_true] at hc
          have hpc2 := z_beq hc.1
          subst hpc2
          exact zm_fit_ok (i' := i + 6) hn hgg he.1 he.2.1 (zm_iv6_ok (by omega) (fun T H locs env ls stk h => by obtain ⟨w, hw⟩ := h.2.1; rw [hw]; exact z_app he.2.2.1)) (ih (i + 6) (by omega) (by omega)) hc.2
        | false =>
          rw [hc] at hL3
          exact zm_rd_ok hgg hx hb hX hbl rfl (by omega) (by omega) hOB he hL3 hall
      · exact z_stp_ok hgg hx hb hml hD (Nat.le_refl _) hXp hKX hKS (fun j hj => by rw [hin] at hj; cases hj) hPH hok (fun pc st hd hf => by cases hf) (fun pc st hd hf => zl_fin_ok hgg rfl hend hd hf) hL2 hall
end ZLOOP2
end
section
/-! The law from its entry: the objects are made, then the loop. -/
section ZSTART
variable {p : Program} {l : Launch} {e : Env} {R : Room} {s : State} {m : MethodId} {args : Array Value} {below : List Frame} {meth : Method} {c : Code} {Q : State → Prop} {cc : ByteArray}
variable {OB : Nat → Nat} {D : va_G} {DA : Nat → ClassId} {cl : List vw_C} {FT : Nat → Nat → FieldType} {TY : List zTy} {PHI : List (List Nat)} {nL : Nat} {KXf : (Nat → Nat) → Nat → State → Heap → Prop}
variable {TBL : List Cond} {own : String} {MT : List zM} {SG : List (Nat × zSig)} {PHS : List Nat} {ce : zCe} {mc ms : Nat} {b L N : Nat} {xs : Nat → Int32} {hd : zS} {hpc : Nat}
theorem zm_law (hx : p.tables.exec = Jvm.exec) (hb : c.code = cc) (hml : c.maxLocals = nL) (hX : va_X b L xs s s.heap) (hbl : b < s.heap.size) (hN : N ≤ 100000) (hL : L ≤ N) (hOB : OB 0 = b) (hD : z_Dy s m args TBL own D cl DA (z_tys DA)) (hXp : z_KXp s.heap.size (KXf OB s.heap.size)) (hKX : KXf OB s.heap.size s s.heap) (hKS : z_KS TBL TBL cl FT own MT ce.1) (hin : k_IN ce.1 = none) (hPH : ∀ a ∈ PHS, z_phok TY PHI a = true)
    (hok : ∀ g ∈ (k_CA ce.1).filterMap (fun a => SG[a.2]?), ∀ m2, MT[g.1]? = some m2 → z_OK TBL cl FT TY PHI KXf m2.1 m2.2.1 m2.2.2.1 m2.2.2.2.1 g.2) (hend : ∀ pc H ls, decode cc pc = .ok (.ireturn, 1) → W p l e R s m args below meth c H [] mc ms Q (F0 m pc ls [.int 1]))
    (hn : z_n hd = 5) (hV : (2, Sum.inl ((0 : Int), (N : Int))) ∈ z_V hd) (hS : zm_chkS TY PHI cl FT MT SG PHS R nL mc ms cc ce hd hpc (N : Int) = true) (h0 : zm_chk0 TY PHI cl FT MT SG PHS R nL mc ms cc ce hd hpc = true) (hP : zm_chkP TY PHI cl FT MT SG PHS R nL mc ms cc ce hd hpc ce.2.1 = true)
    {ls : Array Slot} (hls : z_ls nL ls [.ref b, .int (Int32.ofNat L)] [(0, 0)]) : W p l e R s m args below meth c s.heap [] 0 0 Q (F0 m 0 ls []) := by
  have hLi : (Int32.ofNat L).toInt = (L : Int) := Int32.toInt_ofNat_of_lt (by omega)
  have hsat : z_sat OB D DA cl TY PHI s.heap.size none false (fun _ => none) s.heap [.ref b, .int (Int32.ofNat L)] nL (zm_st0 (N : Int)) (fun _ => none) s.heap [] [.ref b, .int (Int32.ofNat L)] ls [] := by
    refine ⟨rfl, ⟨[], by rw [List.append_nil]⟩, hls, rfl, fun q hq => ?_, fun q hq => absurd hq List.not_mem_nil, fun q hq => absurd hq List.not_mem_nil, fun q hq => absurd hq List.not_mem_nil, trivial, fun a t ht => absurd ht (by simp), ⟨fun a t ht => absurd ht (by simp), fun h => absurd h (by simp), z_fin_rf⟩, fun a t ht => absurd ht (by simp), fun q _ _ _ => ⟨rfl, rfl⟩, va_S.rf⟩
    rcases List.mem_cons.mp hq with rfl | hq
    · exact ⟨_, rfl, by show _ = Value.ref (OB 0); rw [hOB]⟩
    rcases List.mem_cons.mp hq with rfl | hq
    · exact ⟨_, rfl, _, rfl, by rw [z_in, hLi]; exact ⟨by show (0 : Int) ≤ _; omega, by show _ ≤ (N : Int); omega⟩⟩
    cases hq
  refine z_runs (CU := []) (ng := 2) (ends := fun env : List Value => env[0]? = some (Value.ref b) ∧ env[1]? = some (Value.int (Int32.ofNat L))) (fun env1 env2 he hgh => ⟨(hgh 0 (by omega)).trans he.1, (hgh 1 (by omega)).trans he.2⟩) (fun env1 pc st Ls he hL2 hall => ?_) (stp := zm_stp TY PHI cl FT MT SG PHS R nL mc ms cc ce.1 (zm_hs hd hpc)) (fuel := ce.2.2) rfl hS ⟨rfl, rfl⟩ (Nat.le_refl _) hsat
  have hgg : z_Good p l e R s m args below meth c Q OB D DA cl TY PHI s.heap.size none false (fun _ => none) s.heap env1 nL (fun pc st => ∀ T2 H2 locs2 env2 ls2 stk2, z_sat OB D DA cl TY PHI s.heap.size none false (fun _ => none) s.heap env1 nL st T2 H2 locs2 env2 ls2 stk2 → W p l e R s m args below meth c H2 locs2 (z_C st).1 (z_C st).2 Q (F0 m pc ls2 stk2)) := fun _ _ => Iff.rfl
  unfold zm_stp z_hst at hL2
  split at hL2
  · rename_i L3 hL3
    cases hL2
    unfold zm_hs at hL3
    obtain ⟨hc, -⟩ := z_cond hL3
    rw [Bool.and_eq_true] at hc
    have hpc2 := z_beq hc.1
    subst hpc2
    refine zm_fit_ok (i' := 0) hn hgg he.1 he.2 (fun T H locs env ls stk d h hv => ?_) (zm_loop hx hb hml hX hbl hN hL hOB hD hXp hKX hKS hin hPH hok hend hn hV h0 hP (N + 1) 0 (by omega) (by omega)) hc.2
    unfold zm_iv0 at hv
    split at hv
    · rename_i r hr
      rw [Bool.and_eq_true] at hv
      obtain ⟨v, g1, x, rfl, g2⟩ := z_get_ok h.2.2.2.2.1 hr
      have a1 := z_ile_ok hv.1
      have a2 := z_ile_ok hv.2
      have b1 := g2.1
      have b2 := g2.2
      have : x = 0 := z_int0 (by omega)
      rw [g1, this]
      rfl
    · cases hv
  · exact z_stp_ok hgg hx hb hml hD (Nat.le_refl _) hXp hKX hKS (fun j hj => by rw [hin] at hj; cases hj) hPH hok (fun pc st hd hf => by cases hf) (fun pc st hd hf => zl_fin_ok hgg rfl hend hd hf) hL2 hall
end ZSTART
end
section
/-! Named cells: what some objects and arrays hold, by names; rules by which a method is walked over it. -/
abbrev zNV : Type := Int ⊕ Nat
/-- how many names; objects (name, class); int fields (name, class, field, place in the list); reference fields (name, class, field, name); arrays (name, kind, length, place in the list) -/
abbrev zNL : Type := Nat × List (Nat × Nat) × List (Nat × Nat × Nat × Nat) × List (Nat × Nat × Nat × Nat) × List (Nat × Nat × Nat × Nat)
abbrev n_N (y : zNL) := y.1
abbrev n_O (y : zNL) := y.2.1
abbrev n_I (y : zNL) := y.2.2.1
abbrev n_R (y : zNL) := y.2.2.2.1
abbrev n_A (y : zNL) := y.2.2.2.2
def zn_l {α : Type} : List α → Nat → Option α
  | [], _ => none
  | v :: _, 0 => some v
  | _ :: L, i + 1 => zn_l L i
def zn_s {α : Type} : List α → Nat → α → List α
  | [], _, _ => []
  | _ :: L, 0, v => v :: L
  | x :: L, i + 1, v => x :: zn_s L i v
theorem zn_ls_eq {α : Type} : ∀ {L : List α} {i : Nat} {v w : α}, zn_l L i = some w → zn_l (zn_s L i v) i = some v
  | [], _, _, _, h => by cases h
  | _ :: _, 0, _, _, _ => rfl
  | _ :: L, i + 1, v, w, h => zn_ls_eq (L := L) (i := i) (w := w) h
theorem zn_ls_ne {α : Type} : ∀ {L : List α} {i j : Nat} {v : α}, i ≠ j → zn_l (zn_s L i v) j = zn_l L j
  | [], _, _, _, _ => rfl
  | _ :: _, 0, 0, _, h => absurd rfl h
  | _ :: _, 0, _ + 1, _, _ => rfl
  | _ :: _, _ + 1, 0, _, _ => rfl
  | _ :: L, i + 1, j + 1, v, h => zn_ls_ne (L := L) (fun e => h (by rw [e]))
def zn_v (A : Nat → Nat) (v : zNV) (w : Value) : Prop := match v with
  | .inl x => ∃ y : Int32, w = .int y ∧ y.toInt = x
  | .inr c => w = .ref (A c)
def zn_is (v : zNV) : Prop := match v with
  | .inl _ => True
  | .inr c => c < 1000
def zn_st (A : Nat → Nat) : List zNV → List Value → Prop
  | [], k => k = []
  | v :: S, k => ∃ w k', k = w :: k' ∧ zn_v A v w ∧ zn_st A S k'
def zn_lv (nL : Nat) (ls : Array Slot) (A : Nat → Nat) (L : List zNV) : Prop := ∃ lv, lv_has ls nL lv ∧ (∀ q ∈ lv, q.2.category = 1) ∧ ∀ i v, zn_l L i = some v → zn_is v → ∃ w, zn_v A v w ∧ (i, w) ∈ lv
def zn_rep (D : va_G) (DA : Nat → ClassId) (cl : List vw_C) (y : zNL) (A : Nat → Nat) (F : List Int) (G : List (Int → Int)) (H : Heap) : Prop :=
  (∀ q ∈ n_O y, ∃ r V, cl[q.2]? = some r ∧ t_OB (A q.1) (D.1 q.2) r.2.2 (D.2 q.2) H V) ∧
  (∀ q ∈ n_I y, ∃ r x, cl[q.2.1]? = some r ∧ q.2.2.1 < r.2.2 ∧ z_sl H (A q.1) (D.2 q.2.1 q.2.2.1) (.int x) ∧ zn_l F q.2.2.2 = some x.toInt) ∧
  (∀ q ∈ n_R y, ∃ r, cl[q.2.1]? = some r ∧ q.2.2.1 < r.2.2 ∧ z_sl H (A q.1) (D.2 q.2.1 q.2.2.1) (.ref (A q.2.2.2))) ∧
  (∀ q ∈ n_A y, ∃ (f : Nat → Value) (g : Int → Int), H[A q.1]? = some (arrV (DA q.2.1) q.2.2.1 f) ∧ zn_l G q.2.2.2 = some g ∧ ∀ j : Nat, j < q.2.2.1 → ∃ x : Int32, f j = .int x ∧ x.toInt = g j)
/-- what stays as it was: other cells, other fields -/
def zn_frm (D : va_G) (cl : List vw_C) (y : zNL) (A : Nat → Nat) (H H1 : Heap) : Prop := H1.size = H.size ∧ (∀ b : Nat, (∀ c, c < n_N y → A c ≠ b) → H1[b]? = H[b]?) ∧
  (∀ q ∈ n_O y, ∀ r k w, cl[q.2]? = some r → k < r.2.2 → (∀ i ∈ n_I y, i.1 = q.1 → i.2.2.1 ≠ k) → z_sl H (A q.1) (D.2 q.2 k) w → z_sl H1 (A q.1) (D.2 q.2 k) w)
theorem zn_frm_rf {D : va_G} {cl : List vw_C} {y : zNL} {A : Nat → Nat} {H : Heap} : zn_frm D cl y A H H := ⟨rfl, fun _ _ => rfl, fun _ _ _ _ _ _ _ _ h => h⟩
theorem zn_frm_tr {D : va_G} {cl : List vw_C} {y : zNL} {A : Nat → Nat} {H H1 H2 : Heap} (h : zn_frm D cl y A H H1) (k : zn_frm D cl y A H1 H2) : zn_frm D cl y A H H2 :=
  ⟨k.1.trans h.1, fun b hb => (k.2.1 b hb).trans (h.2.1 b hb), fun q hq r i w h1 h2 h3 h4 => k.2.2 q hq r i w h1 h2 h3 (h.2.2 q hq r i w h1 h2 h3 h4)⟩
/-- the layout is such as can be used -/
def zn_wf (y : zNL) : Bool :=
  (n_I y).all (fun q => (n_I y).all (fun u => (Nat.beq q.2.2.2 u.2.2.2 == (Nat.beq q.1 u.1 && Nat.beq q.2.2.1 u.2.2.1)) && (!(Nat.beq q.1 u.1) || Nat.beq q.2.1 u.2.1)) && Nat.blt q.1 (n_N y) && (n_R y).all (fun u => !(Nat.beq q.1 u.1 && Nat.beq q.2.2.1 u.2.2.1) && (!(Nat.beq q.1 u.1) || Nat.beq q.2.1 u.2.1)) && (n_O y).any (fun o => Nat.beq o.1 q.1 && Nat.beq o.2 q.2.1)) &&
  (n_R y).all (fun q => Nat.blt q.1 (n_N y) && Nat.blt q.2.2.2 (n_N y)) &&
  (n_O y).all (fun q => Nat.blt q.1 (n_N y) && (n_O y).all (fun u => !(Nat.beq q.1 u.1) || Nat.beq q.2 u.2) && (n_A y).all (fun u => !(Nat.beq q.1 u.1)) && (n_I y).all (fun u => !(Nat.beq q.1 u.1) || Nat.beq q.2 u.2.1)) &&
  (n_A y).all (fun q => Nat.blt q.1 (n_N y) && (n_A y).all (fun u => (Nat.beq q.2.2.2 u.2.2.2 == Nat.beq q.1 u.1) && (!(Nat.beq q.1 u.1) || (Nat.beq q.2.1 u.2.1 && Nat.beq q.2.2.1 u.2.2.1))) && (n_I y).all (fun u => !(Nat.beq q.1 u.1)) && (n_R y).all (fun u => !(Nat.beq q.1 u.1)))
def zn_B (cl : List vw_C) (FT : Nat → Nat → FieldType) (KXf : (Nat → Nat) → Nat → State → Heap → Prop) (TBL : List Cond) (MT : List zM) (y : zNL) (mm : zM) (K : zK) (rm : Nat × Nat) (good : Nat → List zNV → List zNV → List Int → List (Int → Int) → Prop) : Prop :=
  ∃ (p : Program) (l : Launch) (e : Env) (R : Room) (s : State) (m : MethodId) (args : Array Value) (below : List Frame) (meth : Method) (c : Code) (Q : State → Prop) (OB : Nat → Nat) (D : va_G) (DA : Nat → ClassId) (sz : Nat) (A : Nat → Nat) (H0 : Heap) (Ts : List Cond) (cells slots : Nat),
    (p.tables.exec = Jvm.exec ∧ c.code = mm.2.1 ∧ c.maxLocals = mm.2.2.1 ∧ z_Dy s m args Ts mm.1.cls D cl DA (z_tys DA) ∧ z_KS Ts TBL cl FT mm.1.cls MT K) ∧
    (sz ≤ H0.size ∧ z_KXp sz (KXf OB sz) ∧ KXf OB sz s H0 ∧ rm.1 ≤ R.frames ∧ rm.2 ≤ R.locals ∧ cells ≤ R.cells ∧ slots ≤ R.slots) ∧
    (zn_wf y = true ∧ (∀ a b, a < n_N y → b < n_N y → A a = A b → a = b) ∧ ∀ a, a < n_N y → sz ≤ A a) ∧
    ∀ pc L S F G, good pc L S F G ↔ ∀ H locs ls stk, zn_rep D DA cl y A F G H → zn_frm D cl y A H0 H → va_S (fun q => sz ≤ q) H0 H locs → zn_lv mm.2.2.1 ls A L → zn_st A S stk → W p l e R s m args below meth c H locs cells slots Q (F0 m pc ls stk)
/-- the places of a method's fields, by the layout -/
def zn_fi (K : zK) (y : zNL) (i c : Nat) : Option Nat := match (k_FL K).find? (fun q => Nat.beq q.1 i) with
  | some q => ((n_I y).find? (fun u => Nat.beq u.1 c && Nat.beq u.2.1 q.2.1 && Nat.beq u.2.2.1 q.2.2)).map (fun u => u.2.2.2)
  | none => none
def zn_fr (K : zK) (y : zNL) (i c : Nat) : Option Nat := match (k_FL K).find? (fun q => Nat.beq q.1 i) with
  | some q => ((n_R y).find? (fun u => Nat.beq u.1 c && Nat.beq u.2.1 q.2.1 && Nat.beq u.2.2.1 q.2.2)).map (fun u => u.2.2.2)
  | none => none
def zn_ar (y : zNL) (c : Nat) : Option (Nat × Nat × Nat) := ((n_A y).find? (fun u => Nat.beq u.1 c)).map (fun u => u.2)
theorem zn_fi_ok {K : zK} {y : zNL} {i c j : Nat} (h : zn_fi K y i c = some j) : ∃ ci k, (i, ci, k) ∈ k_FL K ∧ (c, ci, k, j) ∈ n_I y := by
  unfold zn_fi at h
  split at h
  · rename_i q hq
    have hm := List.mem_of_find?_eq_some hq
    have hp0 := List.find?_some hq; have hp0 : Nat.beq q.1 i = true := hp0
    have hp := z_beq hp0
    cases hu : (n_I y).find? (fun u => Nat.beq u.1 c && Nat.beq u.2.1 q.2.1 && Nat.beq u.2.2.1 q.2.2) with
    | none => rw [hu] at h; cases h
    | some u =>
      rw [hu] at h
      cases h
      have um := List.mem_of_find?_eq_some hu
      have up := List.find?_some hu
      simp only [Bool.and_eq_true] at up
      obtain ⟨q1, q2, q3⟩ := q
      obtain ⟨u1, u2, u3, u4⟩ := u
      have e1 : q1 = i := hp
      have e2 : u1 = c := z_beq up.1.1
      have e3 : u2 = q2 := z_beq up.1.2
      have e4 : u3 = q3 := z_beq up.2
      subst e1; subst e2; subst e3; subst e4
      exact ⟨_, _, hm, um⟩
  · cases h
theorem zn_fr_ok {K : zK} {y : zNL} {i c j : Nat} (h : zn_fr K y i c = some j) : ∃ ci k, (i, ci, k) ∈ k_FL K ∧ (c, ci, k, j) ∈ n_R y := by
  unfold zn_fr at h
  split at h
  · rename_i q hq
    have hm := List.mem_of_find?_eq_some hq
    have hp0 := List.find?_some hq; have hp0 : Nat.beq q.1 i = true := hp0
    have hp := z_beq hp0
    cases hu : (n_R y).find? (fun u => Nat.beq u.1 c && Nat.beq u.2.1 q.2.1 && Nat.beq u.2.2.1 q.2.2) with
    | none => rw [hu] at h; cases h
    | some u =>
      rw [hu] at h
      cases h
      have um := List.mem_of_find?_eq_some hu
      have up := List.find?_some hu
      simp only [Bool.and_eq_true] at up
      obtain ⟨q1, q2, q3⟩ := q
      obtain ⟨u1, u2, u3, u4⟩ := u
      have e1 : q1 = i := hp
      have e2 : u1 = c := z_beq up.1.1
      have e3 : u2 = q2 := z_beq up.1.2
      have e4 : u3 = q3 := z_beq up.2
      subst e1; subst e2; subst e3; subst e4
      exact ⟨_, _, hm, um⟩
  · cases h
theorem zn_ar_ok {y : zNL} {c : Nat} {q : Nat × Nat × Nat} (h : zn_ar y c = some q) : (c, q) ∈ n_A y := by
  unfold zn_ar at h
  cases hu : (n_A y).find? (fun u => Nat.beq u.1 c) with
  | none => rw [hu] at h; cases h
  | some u =>
    rw [hu] at h
    cases h
    have um := List.mem_of_find?_eq_some hu
    have up0 := List.find?_some hu; have up0 : Nat.beq u.1 c = true := up0
    have up := z_beq up0
    obtain ⟨u1, u2⟩ := u
    have e1 : u1 = c := up
    subst e1
    exact um
section ZNPURE
variable {cl : List vw_C} {FT : Nat → Nat → FieldType} {KXf : (Nat → Nat) → Nat → State → Heap → Prop} {TBL : List Cond} {MT : List zM} {y : zNL} {mm : zM} {K : zK} {rm : Nat × Nat} {good : Nat → List zNV → List zNV → List Int → List (Int → Int) → Prop}
variable {pc : Nat} {L S : List zNV} {F : List Int} {G : List (Int → Int)}
theorem zn_v1 {A : Nat → Nat} {v : zNV} {w : Value} (h : zn_v A v w) : w.category = 1 := by
  match v, h with
  | .inl x, ⟨y, e, _⟩ => rw [e]; rfl
  | .inr c, e =>
    have e : w = .ref (A c) := e
    rw [e]; rfl
/-- a constant -/
def zn_cst (K : zK) (ins : Instr) (len : Nat) : Option Int := match ins with
  | .iconst n => cond (Nat.beq len 1 && z_noov n n) (some n) none
  | .bipush n => cond (Nat.beq len 2 && (z_ile (-128) n && z_ile n 127)) (some n) none
  | .sipush n => cond (Nat.beq len 3 && (z_ile (-32768) n && z_ile n 32767)) (some n) none
  | .ldc i => cond (Nat.beq len 2) (((k_CT K).find? (fun q => Nat.beq q.1 i)).map (fun q => q.2.toInt)) none
  | .ldc_w i => cond (Nat.beq len 3) (((k_CT K).find? (fun q => Nat.beq q.1 i)).map (fun q => q.2.toInt)) none
  | _ => none
theorem zn_con (hB : zn_B cl FT KXf TBL MT y mm K rm good) {ins : Instr} {len : Nat} {n : Int} (hd : decode mm.2.1 pc = .ok (ins, len)) (hc : zn_cst K ins len = some n) (k : good (pc + len) L (.inl n :: S) F G) : good pc L S F G := by
  obtain ⟨p, l, e, R, s, m, args, below, meth, c, Q, OB, D, DA, sz, A, H0, Ts, cells, slots, ⟨hx, hb, hml, hD, hKS⟩, -, -, hg⟩ := hB
  refine (hg _ _ _ _ _).mpr fun H locs ls stk h1 h2 h3 h4 h5 => ?_
  have kk := fun (v : Int32) (hv : v.toInt = n) => (hg _ _ _ _ _).mp k H locs ls (.int v :: stk) h1 h2 h3 h4 ⟨_, _, rfl, ⟨v, rfl, hv⟩, h5⟩
  unfold zn_cst at hc
  split at hc
  · obtain ⟨c1, rfl⟩ := z_cond hc
    rw [Bool.and_eq_true] at c1
    rw [z_beq c1.1] at hd kk
    obtain ⟨q1, q2⟩ := z_noov_ok c1.2
    exact lv_iconst hx hb hd rfl (kk _ (Int32.toInt_ofInt_of_le (by omega) (by omega)))
  · rename_i n2
    obtain ⟨c1, rfl⟩ := z_cond hc
    rw [Bool.and_eq_true, Bool.and_eq_true] at c1
    rw [z_beq c1.1] at hd kk
    have q1 := z_ile_ok c1.2.1
    have q2 := z_ile_ok c1.2.2
    exact lv_bipush hx hb hd rfl (kk ((Int8.ofInt n2).toInt32) (by rw [Int8.toInt_toInt32]; exact Int8.toInt_ofInt_of_le (by omega) (by omega)))
  · rename_i n2
    obtain ⟨c1, rfl⟩ := z_cond hc
    rw [Bool.and_eq_true, Bool.and_eq_true] at c1
    rw [z_beq c1.1] at hd kk
    have q1 := z_ile_ok c1.2.1
    have q2 := z_ile_ok c1.2.2
    exact lv_sipush hx hb hd rfl (kk ((Int16.ofInt n2).toInt32) (by rw [Int16.toInt_toInt32]; exact Int16.toInt_ofInt_of_le (by omega) (by omega)))
  · rename_i i
    cases hf : (k_CT K).find? (fun q => Nat.beq q.1 i) with
    | none => rw [hf] at hc; cases hl : Nat.beq len 2 <;> rw [hl] at hc <;> cases hc
    | some q =>
      rw [hf] at hc
      obtain ⟨c1, rfl⟩ := z_cond (b := Nat.beq len 2) (x := q.2.toInt) hc
      rw [z_beq c1] at hd kk
      have hm := hKS.2.2.2.1 q (List.mem_of_find?_eq_some hf)
      have hp0 := List.find?_some hf; have hp0 : Nat.beq q.1 i = true := hp0
      rw [z_beq hp0] at hm
      exact lv_ldc hx hb hD.2.1 (hD.1 _ hm) hd (kk _ rfl)
  · rename_i i
    cases hf : (k_CT K).find? (fun q => Nat.beq q.1 i) with
    | none => rw [hf] at hc; cases hl : Nat.beq len 3 <;> rw [hl] at hc <;> cases hc
    | some q =>
      rw [hf] at hc
      obtain ⟨c1, rfl⟩ := z_cond (b := Nat.beq len 3) (x := q.2.toInt) hc
      rw [z_beq c1] at hd kk
      have hm := hKS.2.2.2.1 q (List.mem_of_find?_eq_some hf)
      have hp0 := List.find?_some hf; have hp0 : Nat.beq q.1 i = true := hp0
      rw [z_beq hp0] at hm
      exact lv_ldcw hx hb hD.2.1 (hD.1 _ hm) hd (kk _ rfl)
  · cases hc
/-- loads -/
def zn_ldi (ins : Instr) (len : Nat) : Option Nat := match ins with
  | .iload i => cond (Nat.beq len 2) (some i) none
  | .iload_n i => cond (Nat.beq len 1) (some i.val) none
  | _ => none
def zn_lda (ins : Instr) (len : Nat) : Option Nat := match ins with
  | .aload i => cond (Nat.beq len 2) (some i) none
  | .aload_n i => cond (Nat.beq len 1) (some i.val) none
  | _ => none
theorem zn_ild (hB : zn_B cl FT KXf TBL MT y mm K rm good) {ins : Instr} {len i : Nat} {v : Int} (hd : decode mm.2.1 pc = .ok (ins, len)) (hc : zn_ldi ins len = some i) (hl : zn_l L i = some (.inl v)) (k : good (pc + len) L (.inl v :: S) F G) : good pc L S F G := by
  obtain ⟨p, l, e, R, s, m, args, below, meth, c, Q, OB, D, DA, sz, A, H0, Ts, cells, slots, ⟨hx, hb, hml, hD, hKS⟩, -, -, hg⟩ := hB
  refine (hg _ _ _ _ _).mpr fun H locs ls stk h1 h2 h3 h4 h5 => ?_
  obtain ⟨lv, a1, a2, a3⟩ := h4
  obtain ⟨w, ⟨x, rfl, hv⟩, a4⟩ := a3 i _ hl trivial
  have kk := (hg _ _ _ _ _).mp k H locs ls (.int x :: stk) h1 h2 h3 ⟨lv, a1, a2, a3⟩ ⟨_, _, rfl, ⟨x, rfl, hv⟩, h5⟩
  unfold zn_ldi at hc
  split at hc
  · obtain ⟨c1, rfl⟩ := z_cond hc
    rw [z_beq c1] at hd kk
    exact lv_iload hx hb hd (a1.2.2 _ a4) kk
  · obtain ⟨c1, rfl⟩ := z_cond hc
    rw [z_beq c1] at hd kk
    exact lv_iload_n hx hb hd rfl (a1.2.2 _ a4) kk
  · cases hc
theorem zn_ald (hB : zn_B cl FT KXf TBL MT y mm K rm good) {ins : Instr} {len i v : Nat} (hd : decode mm.2.1 pc = .ok (ins, len)) (hc : zn_lda ins len = some i) (hl : zn_l L i = some (.inr v)) (hv : Nat.blt v 1000 = true) (k : good (pc + len) L (.inr v :: S) F G) : good pc L S F G := by
  obtain ⟨p, l, e, R, s, m, args, below, meth, c, Q, OB, D, DA, sz, A, H0, Ts, cells, slots, ⟨hx, hb, hml, hD, hKS⟩, -, -, hg⟩ := hB
  refine (hg _ _ _ _ _).mpr fun H locs ls stk h1 h2 h3 h4 h5 => ?_
  obtain ⟨lv, a1, a2, a3⟩ := h4
  obtain ⟨w, hw, a4⟩ := a3 i _ hl (z_blt hv)
  have hw : w = .ref (A v) := hw
  subst hw
  have kk := (hg _ _ _ _ _).mp k H locs ls (.ref (A v) :: stk) h1 h2 h3 ⟨lv, a1, a2, a3⟩ ⟨_, _, rfl, rfl, h5⟩
  unfold zn_lda at hc
  split at hc
  · obtain ⟨c1, rfl⟩ := z_cond hc
    rw [z_beq c1] at hd kk
    exact lv_aload hx hb hd (a1.2.2 _ a4) kk
  · obtain ⟨c1, rfl⟩ := z_cond hc
    rw [z_beq c1] at hd kk
    exact lv_aload_n hx hb hd rfl (a1.2.2 _ a4) kk
  · cases hc
/-- stores -/
def zn_sti (ins : Instr) (len : Nat) : Option Nat := match ins with
  | .istore i => cond (Nat.beq len 2) (some i) none
  | .istore_n i => cond (Nat.beq len 1) (some i.val) none
  | _ => none
theorem zn_lv_set {nL i : Nat} {A : Nat → Nat} {v : zNV} {w u : zNV} {x : Value} {ls' : Array Slot} {lv : List (Nat × Value)} (a2 : ∀ q ∈ lv, q.2.category = 1) (a3 : ∀ i v, zn_l L i = some v → zn_is v → ∃ w, zn_v A v w ∧ (i, w) ∈ lv) (hv : zn_v A v x) (hl : zn_l L i = some u) (h : lv_has ls' nL ((i, x) :: lv.filter (fun q => !(q.1 == i) && !(q.1 + 1 == i && q.2.category == 2)))) : zn_lv nL ls' A (zn_s L i v) := by
  refine ⟨_, h, fun q hq => ?_, fun j w2 hj hw => ?_⟩
  · rcases List.mem_cons.mp hq with rfl | hq
    · exact zn_v1 hv
    · exact a2 q (List.mem_filter.mp hq).1
  · by_cases e : i = j
    · subst e
      rw [zn_ls_eq hl] at hj
      cases hj
      exact ⟨x, hv, List.mem_cons_self⟩
    · rw [zn_ls_ne e] at hj
      obtain ⟨w3, b1, b2⟩ := a3 j w2 hj hw
      refine ⟨w3, b1, List.mem_cons_of_mem _ (List.mem_filter.mpr ⟨b2, ?_⟩)⟩
      have hcat := a2 _ b2
      have hne : ¬ j = i := fun h => e h.symm
      simp [hne, hcat]
theorem zn_ist (hB : zn_B cl FT KXf TBL MT y mm K rm good) {ins : Instr} {len i : Nat} {v : Int} {u : zNV} (hd : decode mm.2.1 pc = .ok (ins, len)) (hc : zn_sti ins len = some i) (hn : Nat.blt i mm.2.2.1 = true) (hl : zn_l L i = some u) (k : good (pc + len) (zn_s L i (.inl v)) S F G) : good pc L (.inl v :: S) F G := by
  obtain ⟨p, l, e, R, s, m, args, below, meth, c, Q, OB, D, DA, sz, A, H0, Ts, cells, slots, ⟨hx, hb, hml, hD, hKS⟩, -, -, hg⟩ := hB
  refine (hg _ _ _ _ _).mpr fun H locs ls stk h1 h2 h3 h4 h5 => ?_
  obtain ⟨lv, a1, a2, a3⟩ := h4
  obtain ⟨w, st, rfl, ⟨x, rfl, hv⟩, h5⟩ := h5
  have kk := fun (ls' : Array Slot) (h : lv_has ls' mm.2.2.1 ((i, .int x) :: lv.filter (fun q => !(q.1 == i) && !(q.1 + 1 == i && q.2.category == 2)))) => (hg _ _ _ _ _).mp k H locs ls' st h1 h2 h3 (zn_lv_set (v := .inl v) (w := u) a2 a3 ⟨x, rfl, hv⟩ hl h) h5
  unfold zn_sti at hc
  split at hc
  · obtain ⟨c1, rfl⟩ := z_cond hc
    rw [z_beq c1] at hd kk
    exact lv_istore hx hb hd a1 (z_blt hn) rfl kk
  · obtain ⟨c1, rfl⟩ := z_cond hc
    rw [z_beq c1] at hd kk
    exact lv_istore_n hx hb hd rfl a1 (z_blt hn) rfl kk
  · cases hc
theorem zn_iinc (hB : zn_B cl FT KXf TBL MT y mm K rm good) {i : Nat} {v n : Int} (hd : decode mm.2.1 pc = .ok (.iinc i n, 3)) (hn : (Nat.blt i mm.2.2.1 && z_noov n n) = true) (hl : zn_l L i = some (.inl v)) (h1 : -2147483648 ≤ v + n) (h2 : v + n ≤ 2147483647) (k : good (pc + 3) (zn_s L i (.inl (v + n))) S F G) : good pc L S F G := by
  obtain ⟨p, l, e, R, s, m, args, below, meth, c, Q, OB, D, DA, sz, A, H0, Ts, cells, slots, ⟨hx, hb, hml, hD, hKS⟩, -, -, hg⟩ := hB
  rw [Bool.and_eq_true] at hn
  obtain ⟨q1, q2⟩ := z_noov_ok hn.2
  refine (hg _ _ _ _ _).mpr fun H locs ls stk g1 g2 g3 h4 h5 => ?_
  obtain ⟨lv, a1, a2, a3⟩ := h4
  obtain ⟨w, ⟨x, rfl, hv⟩, a4⟩ := a3 i _ hl trivial
  obtain ⟨j, hj⟩ := List.getElem?_of_mem a4
  have hx2 : (x + Int32.ofInt n).toInt = v + n := by
    rw [Int32.toInt_add, Int32.toInt_ofInt_of_le (by omega) (by omega), hv]
    exact z_bmod (by omega) (by omega)
  exact lv_iinc hx hb hd a1 hj rfl (z_blt hn.1) rfl fun ls' h => (hg _ _ _ _ _).mp k H locs ls' stk g1 g2 g3 (zn_lv_set (v := .inl (v + n)) (w := .inl v) a2 a3 ⟨_, rfl, hx2⟩ hl h) h5
end ZNPURE
end
section
/-! More rules over named cells: sums, jumps, fields, arrays. -/
def zn_up (g : Int → Int) (j v : Int) : Int → Int := fun i => if i = j then v else g i
theorem zn_up_s {g : Int → Int} {j v : Int} : zn_up g j v j = v := if_pos rfl
theorem zn_up_n {g : Int → Int} {j v i : Int} (h : i ≠ j) : zn_up g j v i = g i := if_neg h
def zn_bop (ins : Instr) : Option (Int32 → Int32 → Int32) := match ins with
  | .iadd => some (fun x y => x + y)
  | .isub => some (fun x y => x - y)
  | .imul => some (fun x y => x * y)
  | .iand => some (fun x y => x &&& y)
  | .ior => some (fun x y => x ||| y)
  | .ixor => some (fun x y => x ^^^ y)
  | .ishl => some (fun x y => x <<< (y &&& 31))
  | .ishr => some (fun x y => x >>> (y &&& 31))
  | _ => none
def zn_bop0 (ins : Instr) : Option (Int32 → Int32 → Int32) := match ins with
  | .idiv => some (fun x y => x / y)
  | .irem => some (fun x y => x - x / y * y)
  | _ => none
theorem zn_and1 {b : Int} {x : Int32} (h : 0 ≤ b) (k : z_in (z_and z_full (b, b)) x) : 0 ≤ x.toInt ∧ x.toInt ≤ b := by
  have e : z_and z_full (b, b) = (0, b) := by
    unfold z_and z_full
    rw [if_neg (by rintro ⟨q, -⟩; cases q), if_neg (by decide), if_pos h]
  rw [e] at k
  exact k
section ZNMORE
variable {cl : List vw_C} {FT : Nat → Nat → FieldType} {KXf : (Nat → Nat) → Nat → State → Heap → Prop} {TBL : List Cond} {MT : List zM} {y : zNL} {mm : zM} {K : zK} {rm : Nat × Nat} {good : Nat → List zNV → List zNV → List Int → List (Int → Int) → Prop}
variable {pc : Nat} {L S : List zNV} {F : List Int} {G : List (Int → Int)}
theorem zn_rgl (hB : zn_B cl FT KXf TBL MT y mm K rm good) {i : Nat} {v : Int} (hl : zn_l L i = some (.inl v)) (k : -2147483648 ≤ v → v ≤ 2147483647 → good pc L S F G) : good pc L S F G := by
  obtain ⟨p, l, e, R, s, m, args, below, meth, c, Q, OB, D, DA, sz, A, H0, Ts, cells, slots, ⟨hx, hb, hml, hD, hKS⟩, ⟨hsz, hXp, hX, -⟩, ⟨hwf, hinj, hge⟩, hg⟩ := hB
  refine (hg _ _ _ _ _).mpr fun H locs ls stk h1 h2 h3 h4 h5 => ?_
  obtain ⟨lv, a1, a2, a3⟩ := h4
  obtain ⟨w, ⟨x, rfl, rfl⟩, a4⟩ := a3 i _ hl trivial
  exact (hg _ _ _ _ _).mp (k (z_lo x) (z_hi x)) H locs ls stk h1 h2 h3 ⟨lv, a1, a2, a3⟩ h5
theorem zn_rgs (hB : zn_B cl FT KXf TBL MT y mm K rm good) {v : Int} (k : -2147483648 ≤ v → v ≤ 2147483647 → good pc L (.inl v :: S) F G) : good pc L (.inl v :: S) F G := by
  obtain ⟨p, l, e, R, s, m, args, below, meth, c, Q, OB, D, DA, sz, A, H0, Ts, cells, slots, ⟨hx, hb, hml, hD, hKS⟩, ⟨hsz, hXp, hX, -⟩, ⟨hwf, hinj, hge⟩, hg⟩ := hB
  refine (hg _ _ _ _ _).mpr fun H locs ls stk h1 h2 h3 h4 h5 => ?_
  obtain ⟨w, st, rfl, ⟨x, rfl, rfl⟩, h6⟩ := h5
  exact (hg _ _ _ _ _).mp (k (z_lo x) (z_hi x)) H locs ls _ h1 h2 h3 h4 ⟨_, _, rfl, ⟨x, rfl, rfl⟩, h6⟩
theorem zn_bin (hB : zn_B cl FT KXf TBL MT y mm K rm good) {ins : Instr} {op : Int32 → Int32 → Int32} {a b : Int} (hd : decode mm.2.1 pc = .ok (ins, 1)) (ho : zn_bop ins = some op) (k : ∀ u v : Int32, u.toInt = a → v.toInt = b → good (pc + 1) L (.inl (op u v).toInt :: S) F G) : good pc L (.inl b :: .inl a :: S) F G := by
  obtain ⟨p, l, e, R, s, m, args, below, meth, c, Q, OB, D, DA, sz, A, H0, Ts, cells, slots, ⟨hx, hb, hml, hD, hKS⟩, ⟨hsz, hXp, hX, -⟩, ⟨hwf, hinj, hge⟩, hg⟩ := hB
  refine (hg _ _ _ _ _).mpr fun H locs ls stk h1 h2 h3 h4 h5 => ?_
  obtain ⟨w, st, rfl, ⟨v, rfl, hv⟩, w2, st2, rfl, ⟨u, rfl, hu⟩, h6⟩ := h5
  have kk := (hg _ _ _ _ _).mp (k u v hu hv) H locs ls (.int (op u v) :: st2) h1 h2 h3 h4 ⟨_, _, rfl, ⟨_, rfl, rfl⟩, h6⟩
  unfold zn_bop at ho
  split at ho
  · cases ho; exact lv_iadd hx hb hd kk
  · cases ho; exact lv_isub hx hb hd kk
  · cases ho; exact lv_imul hx hb hd kk
  · cases ho; exact lv_iand hx hb hd kk
  · cases ho; exact lv_ior hx hb hd kk
  · cases ho; exact lv_ixor hx hb hd kk
  · cases ho; exact lv_ishl hx hb hd kk
  · cases ho; exact lv_ishr hx hb hd kk
  · cases ho
theorem zn_bin0 (hB : zn_B cl FT KXf TBL MT y mm K rm good) {ins : Instr} {op : Int32 → Int32 → Int32} {a b : Int} (hd : decode mm.2.1 pc = .ok (ins, 1)) (ho : zn_bop0 ins = some op) (hb0 : b ≠ 0) (k : ∀ u v : Int32, u.toInt = a → v.toInt = b → good (pc + 1) L (.inl (op u v).toInt :: S) F G) : good pc L (.inl b :: .inl a :: S) F G := by
  obtain ⟨p, l, e, R, s, m, args, below, meth, c, Q, OB, D, DA, sz, A, H0, Ts, cells, slots, ⟨hx, hb, hml, hD, hKS⟩, ⟨hsz, hXp, hX, -⟩, ⟨hwf, hinj, hge⟩, hg⟩ := hB
  refine (hg _ _ _ _ _).mpr fun H locs ls stk h1 h2 h3 h4 h5 => ?_
  obtain ⟨w, st, rfl, ⟨v, rfl, hv⟩, w2, st2, rfl, ⟨u, rfl, hu⟩, h6⟩ := h5
  have kk := (hg _ _ _ _ _).mp (k u v hu hv) H locs ls (.int (op u v) :: st2) h1 h2 h3 h4 ⟨_, _, rfl, ⟨_, rfl, rfl⟩, h6⟩
  have hv0 : ¬ v = 0 := fun q => hb0 (by rw [← hv, q]; rfl)
  unfold zn_bop0 at ho
  split at ho
  · cases ho; exact lv_idiv hx hb hd hv0 kk
  · cases ho; exact lv_irem hx hb hd hv0 kk
  · cases ho
theorem zn_neg (hB : zn_B cl FT KXf TBL MT y mm K rm good) {a : Int} (hd : decode mm.2.1 pc = .ok (.ineg, 1)) (k : ∀ u : Int32, u.toInt = a → good (pc + 1) L (.inl (-u).toInt :: S) F G) : good pc L (.inl a :: S) F G := by
  obtain ⟨p, l, e, R, s, m, args, below, meth, c, Q, OB, D, DA, sz, A, H0, Ts, cells, slots, ⟨hx, hb, hml, hD, hKS⟩, ⟨hsz, hXp, hX, -⟩, ⟨hwf, hinj, hge⟩, hg⟩ := hB
  refine (hg _ _ _ _ _).mpr fun H locs ls stk h1 h2 h3 h4 h5 => ?_
  obtain ⟨w2, st2, rfl, ⟨u, rfl, hu⟩, h6⟩ := h5
  exact lv_ineg hx hb hd ((hg _ _ _ _ _).mp (k u hu) H locs ls (.int (-u) :: st2) h1 h2 h3 h4 ⟨_, _, rfl, ⟨_, rfl, rfl⟩, h6⟩)
/-- any value -/
theorem zn_any (hB : zn_B cl FT KXf TBL MT y mm K rm good) {ins : Instr} {op : Int32 → Int32 → Int32} {a b : Int} (hd : decode mm.2.1 pc = .ok (ins, 1)) (ho : zn_bop ins = some op) (k : ∀ v : Int, -2147483648 ≤ v → v ≤ 2147483647 → good (pc + 1) L (.inl v :: S) F G) : good pc L (.inl b :: .inl a :: S) F G :=
  zn_bin hB hd ho fun u v _ _ => k _ (z_lo _) (z_hi _)
theorem zn_any0 (hB : zn_B cl FT KXf TBL MT y mm K rm good) {ins : Instr} {op : Int32 → Int32 → Int32} {a b : Int} (hd : decode mm.2.1 pc = .ok (ins, 1)) (ho : zn_bop0 ins = some op) (hb0 : b ≠ 0) (k : ∀ v : Int, -2147483648 ≤ v → v ≤ 2147483647 → good (pc + 1) L (.inl v :: S) F G) : good pc L (.inl b :: .inl a :: S) F G :=
  zn_bin0 hB hd ho hb0 fun u v _ _ => k _ (z_lo _) (z_hi _)
theorem zn_iadd (hB : zn_B cl FT KXf TBL MT y mm K rm good) {a b : Int} (hd : decode mm.2.1 pc = .ok (.iadd, 1)) (h1 : -2147483648 ≤ a + b) (h2 : a + b ≤ 2147483647) (k : good (pc + 1) L (.inl (a + b) :: S) F G) : good pc L (.inl b :: .inl a :: S) F G :=
  zn_bin hB hd rfl fun u v hu hv => by
    have : (u + v).toInt = a + b := by rw [Int32.toInt_add, hu, hv]; exact z_bmod h1 h2
    show good _ _ (.inl (u + v).toInt :: _) _ _
    rw [this]; exact k
theorem zn_isub (hB : zn_B cl FT KXf TBL MT y mm K rm good) {a b : Int} (hd : decode mm.2.1 pc = .ok (.isub, 1)) (h1 : -2147483648 ≤ a - b) (h2 : a - b ≤ 2147483647) (k : good (pc + 1) L (.inl (a - b) :: S) F G) : good pc L (.inl b :: .inl a :: S) F G :=
  zn_bin hB hd rfl fun u v hu hv => by
    have : (u - v).toInt = a - b := by rw [Int32.toInt_sub, hu, hv]; exact z_bmod h1 h2
    show good _ _ (.inl (u - v).toInt :: _) _ _
    rw [this]; exact k
theorem zn_imul (hB : zn_B cl FT KXf TBL MT y mm K rm good) {a b : Int} (hd : decode mm.2.1 pc = .ok (.imul, 1)) (h1 : -2147483648 ≤ a * b) (h2 : a * b ≤ 2147483647) (k : good (pc + 1) L (.inl (a * b) :: S) F G) : good pc L (.inl b :: .inl a :: S) F G :=
  zn_bin hB hd rfl fun u v hu hv => by
    have : (u * v).toInt = a * b := by rw [Int32.toInt_mul, hu, hv]; exact z_bmod h1 h2
    show good _ _ (.inl (u * v).toInt :: _) _ _
    rw [this]; exact k
/-- a byte without its sign, and the like -/
theorem zn_and (hB : zn_B cl FT KXf TBL MT y mm K rm good) {a b : Int} (hd : decode mm.2.1 pc = .ok (.iand, 1)) (hb0 : 0 ≤ b) (k : ∀ v : Int, 0 ≤ v → v ≤ b → good (pc + 1) L (.inl v :: S) F G) : good pc L (.inl b :: .inl a :: S) F G :=
  zn_bin hB hd rfl fun u v hu hv => by
    have := z_and_ok (a := z_full) (b := (b, b)) (x := u) (y := v) ⟨z_lo u, z_hi u⟩ ⟨by rw [hv]; exact Int.le_refl _, by rw [hv]; exact Int.le_refl _⟩
    exact k _ (zn_and1 hb0 this).1 (zn_and1 hb0 this).2
theorem zn_dup (hB : zn_B cl FT KXf TBL MT y mm K rm good) {v : zNV} (hd : decode mm.2.1 pc = .ok (.dup, 1)) (k : good (pc + 1) L (v :: v :: S) F G) : good pc L (v :: S) F G := by
  obtain ⟨p, l, e, R, s, m, args, below, meth, c, Q, OB, D, DA, sz, A, H0, Ts, cells, slots, ⟨hx, hb, hml, hD, hKS⟩, ⟨hsz, hXp, hX, -⟩, ⟨hwf, hinj, hge⟩, hg⟩ := hB
  refine (hg _ _ _ _ _).mpr fun H locs ls stk h1 h2 h3 h4 h5 => ?_
  obtain ⟨w, st, rfl, hv, h6⟩ := h5
  exact lv_dup hx hb hd (zn_v1 hv) ((hg _ _ _ _ _).mp k H locs ls _ h1 h2 h3 h4 ⟨_, _, rfl, hv, _, _, rfl, hv, h6⟩)
theorem zn_dupx1 (hB : zn_B cl FT KXf TBL MT y mm K rm good) {v u : zNV} (hd : decode mm.2.1 pc = .ok (.dup_x1, 1)) (k : good (pc + 1) L (v :: u :: v :: S) F G) : good pc L (v :: u :: S) F G := by
  obtain ⟨p, l, e, R, s, m, args, below, meth, c, Q, OB, D, DA, sz, A, H0, Ts, cells, slots, ⟨hx, hb, hml, hD, hKS⟩, ⟨hsz, hXp, hX, -⟩, ⟨hwf, hinj, hge⟩, hg⟩ := hB
  refine (hg _ _ _ _ _).mpr fun H locs ls stk h1 h2 h3 h4 h5 => ?_
  obtain ⟨w, st, rfl, hv, w2, st2, rfl, hu, h6⟩ := h5
  exact lv_dup_x1 hx hb hd (zn_v1 hv) (zn_v1 hu) ((hg _ _ _ _ _).mp k H locs ls _ h1 h2 h3 h4 ⟨_, _, rfl, hv, _, _, rfl, hu, _, _, rfl, hv, h6⟩)
theorem zn_dup2 (hB : zn_B cl FT KXf TBL MT y mm K rm good) {v u : zNV} (hd : decode mm.2.1 pc = .ok (.dup2, 1)) (k : good (pc + 1) L (v :: u :: v :: u :: S) F G) : good pc L (v :: u :: S) F G := by
  obtain ⟨p, l, e, R, s, m, args, below, meth, c, Q, OB, D, DA, sz, A, H0, Ts, cells, slots, ⟨hx, hb, hml, hD, hKS⟩, ⟨hsz, hXp, hX, -⟩, ⟨hwf, hinj, hge⟩, hg⟩ := hB
  refine (hg _ _ _ _ _).mpr fun H locs ls stk h1 h2 h3 h4 h5 => ?_
  obtain ⟨w, st, rfl, hv, w2, st2, rfl, hu, h6⟩ := h5
  exact lv_dup2_11 hx hb hd (zn_v1 hv) (zn_v1 hu) ((hg _ _ _ _ _).mp k H locs ls _ h1 h2 h3 h4 ⟨_, _, rfl, hv, _, _, rfl, hu, _, _, rfl, hv, _, _, rfl, hu, h6⟩)
theorem zn_pop (hB : zn_B cl FT KXf TBL MT y mm K rm good) {v : zNV} (hd : decode mm.2.1 pc = .ok (.pop, 1)) (k : good (pc + 1) L S F G) : good pc L (v :: S) F G := by
  obtain ⟨p, l, e, R, s, m, args, below, meth, c, Q, OB, D, DA, sz, A, H0, Ts, cells, slots, ⟨hx, hb, hml, hD, hKS⟩, ⟨hsz, hXp, hX, -⟩, ⟨hwf, hinj, hge⟩, hg⟩ := hB
  refine (hg _ _ _ _ _).mpr fun H locs ls stk h1 h2 h3 h4 h5 => ?_
  obtain ⟨w, st, rfl, hv, h6⟩ := h5
  exact lv_pop hx hb hd (zn_v1 hv) ((hg _ _ _ _ _).mp k H locs ls _ h1 h2 h3 h4 h6)
theorem zn_goto (hB : zn_B cl FT KXf TBL MT y mm K rm good) {off : Int} {t : Nat} (hd : decode mm.2.1 pc = .ok (.goto off, 3)) (ht : z_to pc off = some t) (k : good t L S F G) : good pc L S F G := by
  obtain ⟨p, l, e, R, s, m, args, below, meth, c, Q, OB, D, DA, sz, A, H0, Ts, cells, slots, ⟨hx, hb, hml, hD, hKS⟩, ⟨hsz, hXp, hX, -⟩, ⟨hwf, hinj, hge⟩, hg⟩ := hB
  refine (hg _ _ _ _ _).mpr fun H locs ls stk h1 h2 h3 h4 h5 => ?_
  exact lv_goto hx hb hd (z_to_ok ht) ((hg _ _ _ _ _).mp k H locs ls _ h1 h2 h3 h4 h5)
theorem zn_icmp (hB : zn_B cl FT KXf TBL MT y mm K rm good) {kc : zC} {off : Int} {t : Nat} {a b : Int} (hd : decode mm.2.1 pc = .ok (.if_icmp kc off, 3)) (ht : z_to pc off = some t) (k1 : z_rel kc a b → good t L S F G) (k2 : z_rel (z_not kc) a b → good (pc + 3) L S F G) : good pc L (.inl b :: .inl a :: S) F G := by
  obtain ⟨p, l, e, R, s, m, args, below, meth, c, Q, OB, D, DA, sz, A, H0, Ts, cells, slots, ⟨hx, hb, hml, hD, hKS⟩, ⟨hsz, hXp, hX, -⟩, ⟨hwf, hinj, hge⟩, hg⟩ := hB
  refine (hg _ _ _ _ _).mpr fun H locs ls stk h1 h2 h3 h4 h5 => ?_
  obtain ⟨w, st, rfl, ⟨v, rfl, hv⟩, w2, st2, rfl, ⟨u, rfl, hu⟩, h6⟩ := h5
  exact z_icmp_row hx hb hd (z_to_ok ht) (fun h => (hg _ _ _ _ _).mp (k1 (by rw [← hu, ← hv]; exact h)) H locs ls _ h1 h2 h3 h4 h6) (fun h => (hg _ _ _ _ _).mp (k2 (by rw [← hu, ← hv]; exact h)) H locs ls _ h1 h2 h3 h4 h6)
theorem zn_icnd (hB : zn_B cl FT KXf TBL MT y mm K rm good) {kc : zC} {off : Int} {t : Nat} {a : Int} (hd : decode mm.2.1 pc = .ok (.ifCond kc off, 3)) (ht : z_to pc off = some t) (k1 : z_rel kc a 0 → good t L S F G) (k2 : z_rel (z_not kc) a 0 → good (pc + 3) L S F G) : good pc L (.inl a :: S) F G := by
  obtain ⟨p, l, e, R, s, m, args, below, meth, c, Q, OB, D, DA, sz, A, H0, Ts, cells, slots, ⟨hx, hb, hml, hD, hKS⟩, ⟨hsz, hXp, hX, -⟩, ⟨hwf, hinj, hge⟩, hg⟩ := hB
  refine (hg _ _ _ _ _).mpr fun H locs ls stk h1 h2 h3 h4 h5 => ?_
  obtain ⟨w2, st2, rfl, ⟨u, rfl, hu⟩, h6⟩ := h5
  exact z_icnd_row hx hb hd (z_to_ok ht) (fun h => (hg _ _ _ _ _).mp (k1 (by rw [← hu]; exact h)) H locs ls _ h1 h2 h3 h4 h6) (fun h => (hg _ _ _ _ _).mp (k2 (by rw [← hu]; exact h)) H locs ls _ h1 h2 h3 h4 h6)
theorem zn_ceq (hB : zn_B cl FT KXf TBL MT y mm K rm good) {off : Int} {t : Nat} {a b : Int} (hd : decode mm.2.1 pc = .ok (.if_icmp .eq off, 3)) (ht : z_to pc off = some t) (k1 : a = b → good t L S F G) (k2 : a ≠ b → good (pc + 3) L S F G) : good pc L (.inl b :: .inl a :: S) F G := zn_icmp hB hd ht k1 k2
theorem zn_zeq (hB : zn_B cl FT KXf TBL MT y mm K rm good) {off : Int} {t : Nat} {a : Int} (hd : decode mm.2.1 pc = .ok (.ifCond .eq off, 3)) (ht : z_to pc off = some t) (k1 : a = 0 → good t L S F G) (k2 : a ≠ 0 → good (pc + 3) L S F G) : good pc L (.inl a :: S) F G := zn_icnd hB hd ht k1 k2
theorem zn_cne (hB : zn_B cl FT KXf TBL MT y mm K rm good) {off : Int} {t : Nat} {a b : Int} (hd : decode mm.2.1 pc = .ok (.if_icmp .ne off, 3)) (ht : z_to pc off = some t) (k1 : a ≠ b → good t L S F G) (k2 : a = b → good (pc + 3) L S F G) : good pc L (.inl b :: .inl a :: S) F G := zn_icmp hB hd ht k1 k2
theorem zn_zne (hB : zn_B cl FT KXf TBL MT y mm K rm good) {off : Int} {t : Nat} {a : Int} (hd : decode mm.2.1 pc = .ok (.ifCond .ne off, 3)) (ht : z_to pc off = some t) (k1 : a ≠ 0 → good t L S F G) (k2 : a = 0 → good (pc + 3) L S F G) : good pc L (.inl a :: S) F G := zn_icnd hB hd ht k1 k2
theorem zn_clt (hB : zn_B cl FT KXf TBL MT y mm K rm good) {off : Int} {t : Nat} {a b : Int} (hd : decode mm.2.1 pc = .ok (.if_icmp .lt off, 3)) (ht : z_to pc off = some t) (k1 : a < b → good t L S F G) (k2 : b ≤ a → good (pc + 3) L S F G) : good pc L (.inl b :: .inl a :: S) F G := zn_icmp hB hd ht k1 k2
theorem zn_zlt (hB : zn_B cl FT KXf TBL MT y mm K rm good) {off : Int} {t : Nat} {a : Int} (hd : decode mm.2.1 pc = .ok (.ifCond .lt off, 3)) (ht : z_to pc off = some t) (k1 : a < 0 → good t L S F G) (k2 : 0 ≤ a → good (pc + 3) L S F G) : good pc L (.inl a :: S) F G := zn_icnd hB hd ht k1 k2
theorem zn_cge (hB : zn_B cl FT KXf TBL MT y mm K rm good) {off : Int} {t : Nat} {a b : Int} (hd : decode mm.2.1 pc = .ok (.if_icmp .ge off, 3)) (ht : z_to pc off = some t) (k1 : b ≤ a → good t L S F G) (k2 : a < b → good (pc + 3) L S F G) : good pc L (.inl b :: .inl a :: S) F G := zn_icmp hB hd ht k1 k2
theorem zn_zge (hB : zn_B cl FT KXf TBL MT y mm K rm good) {off : Int} {t : Nat} {a : Int} (hd : decode mm.2.1 pc = .ok (.ifCond .ge off, 3)) (ht : z_to pc off = some t) (k1 : 0 ≤ a → good t L S F G) (k2 : a < 0 → good (pc + 3) L S F G) : good pc L (.inl a :: S) F G := zn_icnd hB hd ht k1 k2
theorem zn_cgt (hB : zn_B cl FT KXf TBL MT y mm K rm good) {off : Int} {t : Nat} {a b : Int} (hd : decode mm.2.1 pc = .ok (.if_icmp .gt off, 3)) (ht : z_to pc off = some t) (k1 : b < a → good t L S F G) (k2 : a ≤ b → good (pc + 3) L S F G) : good pc L (.inl b :: .inl a :: S) F G := zn_icmp hB hd ht k1 k2
theorem zn_zgt (hB : zn_B cl FT KXf TBL MT y mm K rm good) {off : Int} {t : Nat} {a : Int} (hd : decode mm.2.1 pc = .ok (.ifCond .gt off, 3)) (ht : z_to pc off = some t) (k1 : 0 < a → good t L S F G) (k2 : a ≤ 0 → good (pc + 3) L S F G) : good pc L (.inl a :: S) F G := zn_icnd hB hd ht k1 k2
theorem zn_cle (hB : zn_B cl FT KXf TBL MT y mm K rm good) {off : Int} {t : Nat} {a b : Int} (hd : decode mm.2.1 pc = .ok (.if_icmp .le off, 3)) (ht : z_to pc off = some t) (k1 : a ≤ b → good t L S F G) (k2 : b < a → good (pc + 3) L S F G) : good pc L (.inl b :: .inl a :: S) F G := zn_icmp hB hd ht k1 k2
theorem zn_zle (hB : zn_B cl FT KXf TBL MT y mm K rm good) {off : Int} {t : Nat} {a : Int} (hd : decode mm.2.1 pc = .ok (.ifCond .le off, 3)) (ht : z_to pc off = some t) (k1 : a ≤ 0 → good t L S F G) (k2 : 0 < a → good (pc + 3) L S F G) : good pc L (.inl a :: S) F G := zn_icnd hB hd ht k1 k2
end ZNMORE
end
section
/-! Rules over named cells: switches, fields, arrays. -/
/-- a switch, case by case -/
def zn_sw (pc : Nat) (good : Nat → Prop) (a dflt : Int) : List (Int × Int) → Prop
  | [] => ∃ t, z_to pc dflt = some t ∧ good t
  | q :: r => (a = q.1 → ∃ t, z_to pc q.2 = some t ∧ good t) ∧ (a ≠ q.1 → zn_sw pc good a dflt r)
theorem zn_sw_ok {pc : Nat} {good : Nat → Prop} {a dflt : Int} : ∀ {ps : List (Int × Int)}, zn_sw pc good a dflt ps → ∃ t, z_to pc (lookupswitch.offset ps dflt a) = some t ∧ good t
  | [], h => h
  | (k, o) :: r, h => by
    rw [lookupswitch.offset_cons]
    by_cases e : k = a
    · rw [if_pos e]; exact h.1 e.symm
    · rw [if_neg e]; exact zn_sw_ok (h.2 (fun q => e q.symm))
def zn_tp : Int → List Int → List (Int × Int)
  | _, [] => []
  | lo, o :: r => (lo, o) :: zn_tp (lo + 1) r
theorem zn_tp_in : ∀ {offs : List Int} {lo d a : Int} {i : Nat} {o : Int}, offs[i]? = some o → a = lo + i → lookupswitch.offset (zn_tp lo offs) d a = o
  | [], _, _, _, _, _, h, _ => by simp at h
  | x :: r, lo, d, a, 0, o, h, e => by
    have : x = o := by simpa using h
    unfold zn_tp
    rw [lookupswitch.offset_cons, if_pos (by rw [e]; simp), this]
  | x :: r, lo, d, a, i + 1, o, h, e => by
    unfold zn_tp
    rw [lookupswitch.offset_cons, if_neg (by rw [e]; omega)]
    exact zn_tp_in (i := i) (by simpa using h) (by rw [e]; omega)
theorem zn_tp_out : ∀ {offs : List Int} {lo d a : Int}, (a < lo ∨ lo + offs.length ≤ a) → lookupswitch.offset (zn_tp lo offs) d a = d
  | [], _, _, _, _ => rfl
  | x :: r, lo, d, a, h => by
    unfold zn_tp
    have h : a < lo ∨ lo + (r.length + 1 : Nat) ≤ a := h
    rw [lookupswitch.offset_cons, if_neg (by omega)]
    exact zn_tp_out (by omega)
/-- a field that can be set: whether it is a boolean -/
def zn_pk (cl : List vw_C) (FT : Nat → Nat → FieldType) (K : zK) (i : Nat) : Option Bool := match (k_FL K).find? (fun q => Nat.beq q.1 i) with
  | some q => (match cl[q.2.1]? with
    | some r => cond (r.2.1 q.2.2).2.2.2 none (match FT q.2.1 q.2.2 with
      | .int => some false
      | .boolean => some true
      | _ => none)
    | none => none)
  | none => none
theorem zn_wfI {y : zNL} (h : zn_wf y = true) {q u : Nat × Nat × Nat × Nat} (hq : q ∈ n_I y) (hu : u ∈ n_I y) : (q.2.2.2 = u.2.2.2 ↔ q.1 = u.1 ∧ q.2.2.1 = u.2.2.1) ∧ (q.1 = u.1 → q.2.1 = u.2.1) := by
  unfold zn_wf at h
  simp only [Bool.and_eq_true] at h
  have h1 := List.all_eq_true.mp h.1.1.1 q hq
  simp only [Bool.and_eq_true] at h1
  have h2 := List.all_eq_true.mp h1.1.1.1 u hu
  simp only [Bool.and_eq_true, Bool.or_eq_true, Bool.not_eq_true', beq_iff_eq] at h2
  refine ⟨⟨fun e => ?_, fun e => ?_⟩, fun e => ?_⟩
  · have : Nat.beq q.2.2.2 u.2.2.2 = true := by rw [e]; exact Nat.beq_refl _
    rw [h2.1, Bool.and_eq_true] at this
    exact ⟨z_beq this.1, z_beq this.2⟩
  · refine z_beq ?_
    rw [h2.1, e.1, e.2, Nat.beq_refl, Nat.beq_refl]; rfl
  · rcases h2.2 with h3 | h3
    · rw [e, Nat.beq_refl] at h3; cases h3
    · exact z_beq h3
theorem zn_wfIR {y : zNL} (h : zn_wf y = true) {q u : Nat × Nat × Nat × Nat} (hq : q ∈ n_I y) (hu : u ∈ n_R y) : ¬ (q.1 = u.1 ∧ q.2.2.1 = u.2.2.1) ∧ (q.1 = u.1 → q.2.1 = u.2.1) := by
  unfold zn_wf at h
  simp only [Bool.and_eq_true] at h
  have h1 := List.all_eq_true.mp h.1.1.1 q hq
  simp only [Bool.and_eq_true] at h1
  have h2 := List.all_eq_true.mp h1.1.2 u hu
  simp only [Bool.and_eq_true, Bool.or_eq_true, Bool.not_eq_true'] at h2
  refine ⟨fun e => ?_, fun e => ?_⟩
  · have := h2.1
    rw [e.1, e.2, Nat.beq_refl, Nat.beq_refl] at this
    cases this
  · rcases h2.2 with h3 | h3
    · rw [e, Nat.beq_refl] at h3; cases h3
    · exact z_beq h3
theorem zn_wfIn {y : zNL} (h : zn_wf y = true) {q : Nat × Nat × Nat × Nat} (hq : q ∈ n_I y) : q.1 < n_N y ∧ ∃ o ∈ n_O y, o.1 = q.1 ∧ o.2 = q.2.1 := by
  unfold zn_wf at h
  simp only [Bool.and_eq_true] at h
  have h1 := List.all_eq_true.mp h.1.1.1 q hq
  simp only [Bool.and_eq_true] at h1
  obtain ⟨o, ho, ho2⟩ := List.any_eq_true.mp h1.2
  rw [Bool.and_eq_true] at ho2
  exact ⟨z_blt h1.1.1.2, o, ho, z_beq ho2.1, z_beq ho2.2⟩
theorem zn_wfR {y : zNL} (h : zn_wf y = true) {q : Nat × Nat × Nat × Nat} (hq : q ∈ n_R y) : q.1 < n_N y ∧ q.2.2.2 < n_N y := by
  unfold zn_wf at h
  simp only [Bool.and_eq_true] at h
  have h1 := List.all_eq_true.mp h.1.1.2 q hq
  rw [Bool.and_eq_true] at h1
  exact ⟨z_blt h1.1, z_blt h1.2⟩
theorem zn_wfO {y : zNL} (h : zn_wf y = true) {q : Nat × Nat} (hq : q ∈ n_O y) : q.1 < n_N y ∧ (∀ u ∈ n_A y, q.1 ≠ u.1) ∧ ∀ u ∈ n_I y, q.1 = u.1 → q.2 = u.2.1 := by
  unfold zn_wf at h
  simp only [Bool.and_eq_true] at h
  have h1 := List.all_eq_true.mp h.1.2 q hq
  simp only [Bool.and_eq_true] at h1
  refine ⟨z_blt h1.1.1.1, fun u hu e => ?_, fun u hu e => ?_⟩
  · have h2 := List.all_eq_true.mp h1.1.2 u hu
    rw [e, Nat.beq_refl] at h2; cases h2
  · have h2 := List.all_eq_true.mp h1.2 u hu
    simp only [Bool.or_eq_true, Bool.not_eq_true'] at h2
    rcases h2 with h3 | h3
    · rw [e, Nat.beq_refl] at h3; cases h3
    · exact z_beq h3
theorem zn_wfA {y : zNL} (h : zn_wf y = true) {q : Nat × Nat × Nat × Nat} (hq : q ∈ n_A y) : q.1 < n_N y ∧ (∀ u ∈ n_A y, (q.2.2.2 = u.2.2.2 ↔ q.1 = u.1) ∧ (q.1 = u.1 → q.2.1 = u.2.1 ∧ q.2.2.1 = u.2.2.1)) ∧ (∀ u ∈ n_I y, q.1 ≠ u.1) ∧ ∀ u ∈ n_R y, q.1 ≠ u.1 := by
  unfold zn_wf at h
  simp only [Bool.and_eq_true] at h
  have h1 := List.all_eq_true.mp h.2 q hq
  simp only [Bool.and_eq_true] at h1
  refine ⟨z_blt h1.1.1.1, fun u hu => ?_, fun u hu e => ?_, fun u hu e => ?_⟩
  · have h2 := List.all_eq_true.mp h1.1.1.2 u hu
    simp only [Bool.and_eq_true, Bool.or_eq_true, Bool.not_eq_true', beq_iff_eq] at h2
    refine ⟨⟨fun e => ?_, fun e => ?_⟩, fun e => ?_⟩
    · refine z_beq ?_
      rw [← h2.1, e]; exact Nat.beq_refl _
    · refine z_beq ?_
      rw [h2.1, e]; exact Nat.beq_refl _
    · rcases h2.2 with h3 | h3
      · rw [e, Nat.beq_refl] at h3; cases h3
      · exact ⟨z_beq h3.1, z_beq h3.2⟩
  · have h2 := List.all_eq_true.mp h1.1.2 u hu
    rw [e, Nat.beq_refl] at h2; cases h2
  · have h2 := List.all_eq_true.mp h1.2 u hu
    rw [e, Nat.beq_refl] at h2; cases h2
section ZNHEAP
variable {cl : List vw_C} {FT : Nat → Nat → FieldType} {KXf : (Nat → Nat) → Nat → State → Heap → Prop} {TBL : List Cond} {MT : List zM} {y : zNL} {mm : zM} {K : zK} {rm : Nat × Nat} {good : Nat → List zNV → List zNV → List Int → List (Int → Int) → Prop}
variable {pc : Nat} {L S : List zNV} {F : List Int} {G : List (Int → Int)}
theorem zn_lsw (hB : zn_B cl FT KXf TBL MT y mm K rm good) {dflt : Int} {ps : Array (Int × Int)} {len : Nat} {a : Int} (hd : decode mm.2.1 pc = .ok (.lookupswitch dflt ps, len)) (hp : (ps.toList.zip (ps.toList.drop 1)).all (fun (a, next) => a.1 < next.1) = true) (k : zn_sw pc (fun t => good t L S F G) a dflt ps.toList) : good pc L (.inl a :: S) F G := by
  obtain ⟨p, l, e, R, s, m, args, below, meth, c, Q, OB, D, DA, sz, A, H0, Ts, cells, slots, ⟨hx, hb, hml, hD, hKS⟩, ⟨hsz, hXp, hX, -⟩, ⟨hwf, hinj, hge⟩, hg⟩ := hB
  refine (hg _ _ _ _ _).mpr fun H locs ls stk h1 h2 h3 h4 h5 => ?_
  obtain ⟨w, st, rfl, ⟨x, rfl, rfl⟩, h6⟩ := h5
  obtain ⟨t, t1, t2⟩ := zn_sw_ok k
  exact lv_lookup hx hb hd hp rfl (z_to_ok t1) ((hg _ _ _ _ _).mp t2 H locs ls _ h1 h2 h3 h4 h6)
theorem zn_tsw (hB : zn_B cl FT KXf TBL MT y mm K rm good) {dflt lo hi : Int} {offs : Array Int} {len : Nat} {a : Int} (hd : decode mm.2.1 pc = .ok (.tableswitch dflt lo hi offs, len)) (hp : (z_ile lo (hi + 1) && z_ile (hi + 1) (lo + offs.toList.length) && z_ile (lo + offs.toList.length) (hi + 1)) = true) (k : zn_sw pc (fun t => good t L S F G) a dflt (zn_tp lo offs.toList)) : good pc L (.inl a :: S) F G := by
  obtain ⟨p, l, e, R, s, m, args, below, meth, c, Q, OB, D, DA, sz, A, H0, Ts, cells, slots, ⟨hx, hb, hml, hD, hKS⟩, ⟨hsz, hXp, hX, -⟩, ⟨hwf, hinj, hge⟩, hg⟩ := hB
  refine (hg _ _ _ _ _).mpr fun H locs ls stk h1 h2 h3 h4 h5 => ?_
  obtain ⟨w, st, rfl, ⟨x, rfl, rfl⟩, h6⟩ := h5
  obtain ⟨t, t1, t2⟩ := zn_sw_ok k
  simp only [Bool.and_eq_true] at hp
  have p1 := z_ile_ok hp.1.1
  have p2 := z_ile_ok hp.1.2
  have p3 := z_ile_ok hp.2
  have kk := (hg _ _ _ _ _).mp t2 H locs ls _ h1 h2 h3 h4 h6
  by_cases ho : x.toInt < lo ∨ hi < x.toInt
  · rw [zn_tp_out (by omega)] at t1
    exact lv_tableOut hx hb hd ho (z_to_ok t1) kk
  · have hlt : (x.toInt - lo).toNat < offs.toList.length := by omega
    have hgo := List.getElem?_eq_getElem hlt
    rw [zn_tp_in hgo (by omega)] at t1
    exact lv_tableIn hx hb hd (by omega) (by omega) (off := offs.toList[(x.toInt - lo).toNat]) (by rw [← Array.getElem?_toList]; exact hgo) (z_to_ok t1) kk
theorem zn_getf (hB : zn_B cl FT KXf TBL MT y mm K rm good) {i c j : Nat} {v : Int} (hd : decode mm.2.1 pc = .ok (.getfield i, 3)) (hi : zn_fi K y i c = some j) (hl : zn_l F j = some v) (k : -2147483648 ≤ v → v ≤ 2147483647 → good (pc + 3) L (.inl v :: S) F G) : good pc L (.inr c :: S) F G := by
  obtain ⟨p, l, e, R, s, m, args, below, meth, c, Q, OB, D, DA, sz, A, H0, Ts, cells, slots, ⟨hx, hb, hml, hD, hKS⟩, ⟨hsz, hXp, hX, -⟩, ⟨hwf, hinj, hge⟩, hg⟩ := hB
  refine (hg _ _ _ _ _).mpr fun H locs ls stk h1 h2 h3 h4 h5 => ?_
  obtain ⟨w, st, rfl, hw, h6⟩ := h5
  have hw : w = .ref (A _) := hw
  subst hw
  obtain ⟨ci, kf, f1, f2⟩ := zn_fi_ok hi
  obtain ⟨r, x, r1, r2, r3, r4⟩ := h1.2.1 _ f2
  rw [hl] at r4
  cases r4
  exact z_getrow hx hb hKS.1 hD f1 r3 hd ((hg _ _ _ _ _).mp (k (z_lo x) (z_hi x)) H locs ls _ h1 h2 h3 h4 ⟨_, _, rfl, ⟨x, rfl, rfl⟩, h6⟩)
theorem zn_getr (hB : zn_B cl FT KXf TBL MT y mm K rm good) {i c j : Nat} (hd : decode mm.2.1 pc = .ok (.getfield i, 3)) (hi : zn_fr K y i c = some j) (k : good (pc + 3) L (.inr j :: S) F G) : good pc L (.inr c :: S) F G := by
  obtain ⟨p, l, e, R, s, m, args, below, meth, c, Q, OB, D, DA, sz, A, H0, Ts, cells, slots, ⟨hx, hb, hml, hD, hKS⟩, ⟨hsz, hXp, hX, -⟩, ⟨hwf, hinj, hge⟩, hg⟩ := hB
  refine (hg _ _ _ _ _).mpr fun H locs ls stk h1 h2 h3 h4 h5 => ?_
  obtain ⟨w, st, rfl, hw, h6⟩ := h5
  have hw : w = .ref (A _) := hw
  subst hw
  obtain ⟨ci, kf, f1, f2⟩ := zn_fr_ok hi
  obtain ⟨r, r1, r2, r3⟩ := h1.2.2.1 _ f2
  exact z_getrow hx hb hKS.1 hD f1 r3 hd ((hg _ _ _ _ _).mp k H locs ls _ h1 h2 h3 h4 ⟨_, _, rfl, rfl, h6⟩)
theorem zn_S_set {A : Nat → Nat} {sz : Nat} {H0 H H1 : Heap} {locs : List Loc} {a k : Nat} (h : va_S (fun q => sz ≤ q) H0 H locs) (ha : sz ≤ a) (e2 : H1.size = H.size) (e3 : ∀ b : Nat, b ≠ a → H1[b]? = H[b]?) : va_S (fun q => sz ≤ q) H0 H1 (locs ++ [⟨a, k⟩]) := by
  refine ⟨by rw [e2]; exact h.1, fun q h1 h2 => ?_, fun q hq => ?_⟩
  · rw [e3 q (fun e => h2 (by rw [e]; exact ha))]; exact h.2.1 q h1 h2
  · rcases List.mem_append.mp hq with hq | hq
    · exact h.2.2 q hq
    · rw [List.mem_singleton.mp hq]; exact ha
theorem zn_putf (hB : zn_B cl FT KXf TBL MT y mm K rm good) {i c j : Nat} {v u : Int} {bl : Bool} (hd : decode mm.2.1 pc = .ok (.putfield i, 3)) (hi : zn_fi K y i c = some j) (hp : zn_pk cl FT K i = some bl) (hv : bl = true → 0 ≤ v ∧ v ≤ 1) (hl : zn_l F j = some u) (k : good (pc + 3) L S (zn_s F j v) G) : good pc L (.inl v :: .inr c :: S) F G := by
  obtain ⟨p, l, e, R, s, m, args, below, meth, cc, Q, OB, D, DA, sz, A, H0, Ts, cells, slots, ⟨hx, hb, hml, hD, hKS⟩, ⟨hsz, hXp, hX, -⟩, ⟨hwf, hinj, hge⟩, hg⟩ := hB
  refine (hg _ _ _ _ _).mpr fun H locs ls stk h1 h2 h3 h4 h5 => ?_
  obtain ⟨w, st, rfl, ⟨x, rfl, rfl⟩, w2, st2, rfl, hw, h6⟩ := h5
  have hw : w2 = .ref (A _) := hw
  subst hw
  unfold zn_pk at hp
  unfold zn_fi at hi
  cases hq : (k_FL K).find? (fun q => Nat.beq q.1 i) with
  | none => rw [hq] at hp; cases hp
  | some q =>
    rw [hq] at hp hi
    have hm := List.mem_of_find?_eq_some hq
    have hp0 := List.find?_some hq
    have hp0 : Nat.beq q.1 i = true := hp0
    obtain ⟨q1, ci, kf⟩ := q
    have e1 : q1 = i := z_beq hp0
    subst e1
    have hi : ((n_I y).find? (fun u => Nat.beq u.1 c && Nat.beq u.2.1 ci && Nat.beq u.2.2.1 kf)).map (fun u => u.2.2.2) = some j := hi
    cases hu : (n_I y).find? (fun u => Nat.beq u.1 c && Nat.beq u.2.1 ci && Nat.beq u.2.2.1 kf) with
    | none => rw [hu] at hi; cases hi
    | some z =>
      rw [hu] at hi
      cases hi
      have um := List.mem_of_find?_eq_some hu
      have up := List.find?_some hu
      simp only [Bool.and_eq_true] at up
      obtain ⟨z1, z2, z3, z4⟩ := z
      have e2 : z1 = c := z_beq up.1.1
      have e3 : z2 = ci := z_beq up.1.2
      have e4 : z3 = kf := z_beq up.2
      subst e2; subst e3; subst e4
      have hp : (match cl[z2]? with
        | some r => cond (r.2.1 z3).2.2.2 none (match FT z2 z3 with
          | .int => some false
          | .boolean => some true
          | _ => none)
        | none => none) = some bl := hp
      obtain ⟨hlt, o, ho, ho1, ho2⟩ := zn_wfIn hwf um
      obtain ⟨r, V, r1, r2⟩ := h1.1 o ho
      rw [ho1, ho2] at r2
      rw [ho2] at r1
      rw [r1] at hp
      have hp : cond (r.2.1 z3).2.2.2 none (match FT z2 z3 with
          | .int => some false
          | .boolean => some true
          | _ => none) = some bl := hp
      cases hf : (r.2.1 z3).2.2.2 with
      | true => rw [hf] at hp; cases hp
      | false =>
        rw [hf] at hp
        have hp : (match FT z2 z3 with
          | .int => some false
          | .boolean => some true
          | _ => none) = some bl := hp
        have hn : narrow (FT z2 z3) (.int x) = .int x ∧ fits (FT z2 z3) (.int x) = true := by
          split at hp
          · rename_i hty; rw [hty]; exact ⟨rfl, rfl⟩
          · rename_i hty
            cases hp
            obtain ⟨b1, b2⟩ := hv rfl
            rw [hty]
            have hx : x.toInt = 0 ∨ x.toInt = 1 := by omega
            rcases hx with hx | hx
            · have : x = 0 := z_int0 hx
              subst this
              exact ⟨rfl, rfl⟩
            · have : x = 1 := Int32.toInt_inj.mp (by rw [hx]; rfl)
              subst this
              exact ⟨rfl, rfl⟩
          · cases hp
        refine z_putrow hx hb hKS.1 hD hm r1 r2 (Or.inl hf) hn hd fun H1 cell g1 g2 g3 g4 g5 => ?_
        have g1 : H[A z1]? = some cell := g1
        have g2 : H1[A z1]? = some (cell.setSlot (D.2 z2 z3) (.int x)) := g2
        have hap := z_apart hKS.1 hD r1
        have hne : ∀ b, b < n_N y → b ≠ z1 → A b ≠ A z1 := fun b hb1 hb2 hb3 => hb2 (hinj _ _ hb1 hlt hb3)
        have hz3 : z3 < r.2.2 := by
          obtain ⟨r', x', x1, x2, x3⟩ := h1.2.1 _ um
          rw [r1] at x1; cases x1; exact x2
        have slk : ∀ (k2 : Nat) (w : Value), k2 < r.2.2 → k2 ≠ z3 → z_sl H (A z1) (D.2 z2 k2) w → z_sl H1 (A z1) (D.2 z2 k2) w := by
          intro k2 w hk2 hk3 ⟨cell2, y1, y2, y3⟩
          rw [g1] at y1
          cases y1
          exact ⟨_, g2, y2, by rw [slot_ne _ _ (fun h7 => hap k2 z3 hk2 hz3 hk3 h7.symm)]; exact y3⟩
        refine (hg _ _ _ _ _).mp k H1 _ ls st2 ⟨fun q hq => ?_, fun q hq => ?_, fun q hq => ?_, fun q hq => ?_⟩ (zn_frm_tr h2 ⟨g3, fun b hb1 => g4 b (fun e => hb1 z1 hlt e.symm), fun q hq r' k2 w hr hk2 hk3 hk4 => ?_⟩) (zn_S_set (A := A) h3 (hge _ hlt) g3 g4) h4 h6
        · obtain ⟨w1, w2, w3⟩ := zn_wfO hwf hq
          by_cases e : q.1 = z1
          · have : q.2 = z2 := w3 _ um e
            rw [e, this]
            exact ⟨r, _, r1, g5⟩
          · obtain ⟨r', V', x1, x2⟩ := h1.1 q hq
            exact ⟨r', V', x1, x2.kept (g4 _ (hne _ w1 e))⟩
        · obtain ⟨r', x', x1, x2, x3, x4⟩ := h1.2.1 q hq
          obtain ⟨w1, w2⟩ := zn_wfI hwf hq um
          by_cases e : q.1 = z1
          · have e2 : q.2.1 = z2 := w2 e
            by_cases e3 : q.2.2.1 = z3
            · have e4 : q.2.2.2 = z4 := w1.mpr ⟨e, e3⟩
              refine ⟨r', x, x1, x2, ?_, ?_⟩
              · rw [e, e2, e3]
                obtain ⟨cell2, y1, y2, y3⟩ := g5
                refine ⟨cell2, y1, y3.1, ?_⟩
                rw [y3.2 _ hz3]
                simp [updV]
              · rw [e4]; exact zn_ls_eq hl
            · refine ⟨r', x', x1, x2, ?_, ?_⟩
              · rw [e2] at x1
                rw [r1] at x1
                cases x1
                rw [e, e2] at x3 ⊢
                exact slk _ _ x2 e3 x3
              · rw [zn_ls_ne (fun h7 => e3 (w1.mp h7.symm).2)]; exact x4
          · refine ⟨r', x', x1, x2, z_sl_kept x3 (g4 _ (hne _ (zn_wfIn hwf hq).1 e)), ?_⟩
            rw [zn_ls_ne (fun h7 => e (w1.mp h7.symm).1)]; exact x4
        · obtain ⟨r', x1, x2, x3⟩ := h1.2.2.1 q hq
          obtain ⟨w1, w2⟩ := zn_wfIR hwf um hq
          refine ⟨r', x1, x2, ?_⟩
          by_cases e : q.1 = z1
          · have e2 : q.2.1 = z2 := (w2 e.symm).symm
            rw [e2] at x1
            rw [r1] at x1
            cases x1
            rw [e, e2] at x3 ⊢
            exact slk _ _ x2 (fun h7 => w1 ⟨e.symm, h7.symm⟩) x3
          · exact z_sl_kept x3 (g4 _ (hne _ (zn_wfR hwf hq).1 e))
        · obtain ⟨f, g, x1, x2, x3⟩ := h1.2.2.2 q hq
          obtain ⟨w1, w2, w3, w4⟩ := zn_wfA hwf hq
          exact ⟨f, g, by rw [g4 _ (hne _ w1 (w3 _ um))]; exact x1, x2, x3⟩
        · by_cases e : q.1 = z1
          · have e2 : q.2 = z2 := (zn_wfO hwf hq).2.2 _ um e
            rw [e2] at hr
            rw [r1] at hr
            cases hr
            rw [e, e2] at hk4 ⊢
            exact slk _ _ hk2 (fun h7 => hk3 _ um e.symm h7.symm) hk4
          · exact z_sl_kept hk4 (g4 _ (hne _ (zn_wfO hwf hq).1 e))
end ZNHEAP
end
section
/-! Rules over named cells: arrays, calls, a method's contract. -/
section ZNARR
variable {cl : List vw_C} {FT : Nat → Nat → FieldType} {KXf : (Nat → Nat) → Nat → State → Heap → Prop} {TBL : List Cond} {MT : List zM} {y : zNL} {mm : zM} {K : zK} {rm : Nat × Nat} {good : Nat → List zNV → List zNV → List Int → List (Int → Int) → Prop}
variable {pc : Nat} {L S : List zNV} {F : List Int} {G : List (Int → Int)}
theorem zn_ix {x : Int32} {n : Nat} (h1 : 0 ≤ x.toInt) (h2 : x.toInt < n) : ¬ (x < 0 ∨ n ≤ x.toNatClampNeg) ∧ x.toInt.toNat < n := by
  refine ⟨fun h => ?_, by omega⟩
  rcases h with h | h
  · have := Int32.lt_iff_toInt_lt.mp h
    have z0 : (0 : Int32).toInt = 0 := rfl
    omega
  · rw [z_clamp] at h; omega
theorem zn_iald (hB : zn_B cl FT KXf TBL MT y mm K rm good) {c n j : Nat} {a : Int} {g : Int → Int} (hd : decode mm.2.1 pc = .ok (.iaload, 1)) (ha : zn_ar y c = some (0, n, j)) (hl : zn_l G j = some g) (ha1 : 0 ≤ a) (ha2 : a < n) (k : -2147483648 ≤ g a → g a ≤ 2147483647 → good (pc + 1) L (.inl (g a) :: S) F G) : good pc L (.inl a :: .inr c :: S) F G := by
  obtain ⟨p, l, e, R, s, m, args, below, meth, cc, Q, OB, D, DA, sz, A, H0, Ts, cells, slots, ⟨hx, hb, hml, hD, hKS⟩, ⟨hsz, hXp, hX, -⟩, ⟨hwf, hinj, hge⟩, hg⟩ := hB
  refine (hg _ _ _ _ _).mpr fun H locs ls stk h1 h2 h3 h4 h5 => ?_
  obtain ⟨w, st, rfl, ⟨x, rfl, rfl⟩, w2, st2, rfl, hw, h6⟩ := h5
  have hw : w2 = .ref (A _) := hw
  subst hw
  obtain ⟨f, g2, x1, x2, x3⟩ := h1.2.2.2 _ (zn_ar_ok ha)
  rw [hl] at x2
  cases x2
  obtain ⟨b1, b2⟩ := zn_ix ha1 ha2
  obtain ⟨v, v1, v2⟩ := x3 x.toInt.toNat b2
  have ev : ((x.toInt.toNat : Nat) : Int) = x.toInt := Int.toNat_of_nonneg ha1
  rw [ev] at v2
  refine W.iald hx hb x1 (z_isarr hD (k := 0) (by omega) n f) (fun q => by cases q) (by rw [arrV_size]; exact b1) (v := .int v) (by rw [z_clamp, arrV_read _ _ b2, v1]) rfl rfl hd ?_
  rw [← v2] at k
  exact (hg _ _ _ _ _).mp (k (z_lo v) (z_hi v)) H locs ls _ h1 h2 h3 h4 ⟨_, _, rfl, ⟨v, rfl, rfl⟩, h6⟩
theorem zn_bald (hB : zn_B cl FT KXf TBL MT y mm K rm good) {c n j : Nat} {a : Int} {g : Int → Int} (hd : decode mm.2.1 pc = .ok (.baload, 1)) (ha : zn_ar y c = some (1, n, j)) (hl : zn_l G j = some g) (ha1 : 0 ≤ a) (ha2 : a < n) (k : -2147483648 ≤ g a → g a ≤ 2147483647 → good (pc + 1) L (.inl (g a) :: S) F G) : good pc L (.inl a :: .inr c :: S) F G := by
  obtain ⟨p, l, e, R, s, m, args, below, meth, cc, Q, OB, D, DA, sz, A, H0, Ts, cells, slots, ⟨hx, hb, hml, hD, hKS⟩, ⟨hsz, hXp, hX, -⟩, ⟨hwf, hinj, hge⟩, hg⟩ := hB
  refine (hg _ _ _ _ _).mpr fun H locs ls stk h1 h2 h3 h4 h5 => ?_
  obtain ⟨w, st, rfl, ⟨x, rfl, rfl⟩, w2, st2, rfl, hw, h6⟩ := h5
  have hw : w2 = .ref (A _) := hw
  subst hw
  obtain ⟨f, g2, x1, x2, x3⟩ := h1.2.2.2 _ (zn_ar_ok ha)
  rw [hl] at x2
  cases x2
  obtain ⟨b1, b2⟩ := zn_ix ha1 ha2
  obtain ⟨v, v1, v2⟩ := x3 x.toInt.toNat b2
  have ev : ((x.toInt.toNat : Nat) : Int) = x.toInt := Int.toNat_of_nonneg ha1
  rw [ev] at v2
  refine W.bald hx hb x1 (z_isarr hD (k := 1) (by omega) n f) (fun q => by cases q) (by rw [arrV_size]; exact b1) (v := .int v) (by rw [z_clamp, arrV_read _ _ b2, v1]) rfl rfl hd ?_
  rw [← v2] at k
  exact (hg _ _ _ _ _).mp (k (z_lo v) (z_hi v)) H locs ls _ h1 h2 h3 h4 ⟨_, _, rfl, ⟨v, rfl, rfl⟩, h6⟩
theorem zn_iast (hB : zn_B cl FT KXf TBL MT y mm K rm good) {c n j : Nat} {a v : Int} {g : Int → Int} (hd : decode mm.2.1 pc = .ok (.iastore, 1)) (ha : zn_ar y c = some (0, n, j)) (hl : zn_l G j = some g) (ha1 : 0 ≤ a) (ha2 : a < n) (k : good (pc + 1) L S F (zn_s G j (zn_up g a v))) : good pc L (.inl v :: .inl a :: .inr c :: S) F G := by
  obtain ⟨p, l, e, R, s, m, args, below, meth, cc, Q, OB, D, DA, sz, A, H0, Ts, cells, slots, ⟨hx, hb, hml, hD, hKS⟩, ⟨hsz, hXp, hX, -⟩, ⟨hwf, hinj, hge⟩, hg⟩ := hB
  refine (hg _ _ _ _ _).mpr fun H locs ls stk h1 h2 h3 h4 h5 => ?_
  obtain ⟨w0, st0, rfl, ⟨u, rfl, rfl⟩, w, st, rfl, ⟨x, rfl, rfl⟩, w2, st2, rfl, hw, h6⟩ := h5
  have hw : w2 = .ref (A _) := hw
  subst hw
  have hm := zn_ar_ok ha
  obtain ⟨f, g2, x1, x2, x3⟩ := h1.2.2.2 _ hm
  rw [hl] at x2
  cases x2
  obtain ⟨b1, b2⟩ := zn_ix ha1 ha2
  obtain ⟨a1, a2, a3, a4⟩ := zn_wfA hwf hm
  have a1 : c < n_N y := a1
  refine W.iast hx hb x1 (z_isarr hD (k := 0) (by omega) n f) (fun q => by cases q) (by rw [arrV_size]; exact b1) rfl rfl hd fun H1 e1 e2 e3 => ?_
  have e1' : H1[A c]? = some (arrV (DA 0) n (updV f x.toNatClampNeg (.int u))) := by rw [e1, arrV_store]
  have hne : ∀ b, b < n_N y → b ≠ c → A b ≠ A c := fun b hb1 hb2 hb3 => hb2 (hinj _ _ hb1 a1 hb3)
  refine (hg _ _ _ _ _).mp k H1 _ ls st2 ⟨fun q hq => ?_, fun q hq => ?_, fun q hq => ?_, fun q hq => ?_⟩ (zn_frm_tr h2 ⟨e2, fun b hb1 => e3 b (fun e => hb1 c a1 e.symm), fun q hq r' k2 w hr hk2 hk3 hk4 => ?_⟩) (zn_S_set (A := A) h3 (hge _ a1) e2 e3) h4 h6
  · obtain ⟨w1, w2, w3⟩ := zn_wfO hwf hq
    obtain ⟨r', V', y1, y2⟩ := h1.1 q hq
    exact ⟨r', V', y1, y2.kept (e3 _ (hne _ w1 (w2 _ hm)))⟩
  · obtain ⟨r', x', y1, y2, y3, y4⟩ := h1.2.1 q hq
    exact ⟨r', x', y1, y2, z_sl_kept y3 (e3 _ (hne _ (zn_wfIn hwf hq).1 (fun e => a3 _ hq e.symm))), y4⟩
  · obtain ⟨r', y1, y2, y3⟩ := h1.2.2.1 q hq
    exact ⟨r', y1, y2, z_sl_kept y3 (e3 _ (hne _ (zn_wfR hwf hq).1 (fun e => a4 _ hq e.symm)))⟩
  · obtain ⟨f2, g2, y1, y2, y3⟩ := h1.2.2.2 q hq
    obtain ⟨w1, w2, w3, w4⟩ := zn_wfA hwf hq
    by_cases e : q.1 = c
    · obtain ⟨v1, v2⟩ := a2 q hq
      obtain ⟨v3, v4⟩ := v2 e.symm
      have v5 : j = q.2.2.2 := v1.mpr e.symm
      have v3 : 0 = q.2.1 := v3
      have v4 : n = q.2.2.1 := v4
      refine ⟨_, _, by rw [e, ← v3, ← v4]; exact e1', by rw [← v5]; exact zn_ls_eq hl, fun i hi => ?_⟩
      rw [← v4] at hi
      obtain ⟨z, z1, z2⟩ := x3 i hi
      by_cases ei : i = x.toInt.toNat
      · refine ⟨u, ?_, ?_⟩
        · rw [z_clamp, ei]; simp [updV]
        · rw [ei, Int.toNat_of_nonneg ha1, zn_up_s]
      · refine ⟨z, ?_, ?_⟩
        · have hne2 : ¬ i = x.toNatClampNeg := ei
          simp [updV, hne2, z1]
        · rw [zn_up_n (by omega)]; exact z2
    · refine ⟨f2, g2, by rw [e3 _ (hne _ w1 e)]; exact y1, ?_, y3⟩
      rw [zn_ls_ne (fun h7 => e ((w2 _ hm).1.mp h7.symm))]
      exact y2
  · exact z_sl_kept hk4 (e3 _ (hne _ (zn_wfO hwf hq).1 ((zn_wfO hwf hq).2.1 _ hm)))
end ZNARR
/-! Contracts over named cells. -/
def zn_rv (r : Option Int) (v : Option Value) : Prop := match r, v with
  | none, none => True
  | some x, some w => ∃ z : Int32, w = .int z ∧ z.toInt = x
  | _, _ => False
def zn_ro (r : Option Int) (S : List zNV) : List zNV := match r with
  | none => S
  | some x => .inl x :: S
abbrev zNP : Type := List zNV → List Int → List (Int → Int) → Prop
abbrev zNQ : Type := List zNV → List Int → List (Int → Int) → Option Int → List Int → List (Int → Int) → Prop
def zn_Pre (D : va_G) (DA : Nat → ClassId) (cl : List vw_C) (y : zNL) (sz : Nat) (KX : State → Heap → Prop) (A : Nat → Nat) (va : List zNV) (F : List Int) (G : List (Int → Int)) (args : Array Value) (U : State) : Prop :=
  ∃ vals : List Value, args = vals.toArray ∧ zn_st A va vals ∧ zn_rep D DA cl y A F G U.heap ∧ sz ≤ U.heap.size ∧ va_K D cl (z_tys DA) U ∧ KX U U.heap
def zn_Post (D : va_G) (DA : Nat → ClassId) (cl : List vw_C) (y : zNL) (A : Nat → Nat) (va : List zNV) (F : List Int) (G : List (Int → Int)) (Qs : zNQ) (_args : Array Value) (st : State) (o : Outcome) (t : State) : Prop :=
  ∃ r v F' G', o = .returned v ∧ zn_rv r v ∧ zn_rep D DA cl y A F' G' t.heap ∧ zn_frm D cl y A st.heap t.heap ∧ Qs va F G r F' G'
def zn_OK (TBL : List Cond) (cl : List vw_C) (KXf : (Nat → Nat) → Nat → State → Heap → Prop) (y : zNL) (mm : zM) (rm : Nat × Nat) (P : zNP) (Qs : zNQ) : Prop :=
  ∀ (l : Launch) (OB : Nat → Nat) (D : va_G) (DA : Nat → ClassId) (sz : Nat) (A : Nat → Nat) (va : List zNV) (F : List Int) (G : List (Int → Int)), P va F G → (∀ a b, a < n_N y → b < n_N y → A a = A b → a = b) → (∀ a, a < n_N y → sz ≤ A a) →
    Met l mm.1 (Cond.code mm.1 mm.2.1 mm.2.2.1 mm.2.2.2.1 :: TBL) { frames := rm.1, cells := 0, slots := 0, locals := rm.2 } (zn_Pre D DA cl y sz (KXf OB sz) A va F G) (zn_Post D DA cl y A va F G Qs) 0 0 (fun q => sz ≤ q)
theorem zn_l_get {α : Type} : ∀ {L : List α} {i : Nat}, zn_l L i = L[i]?
  | [], _ => rfl
  | _ :: _, 0 => rfl
  | _ :: L, i + 1 => by
    show zn_l L i = _
    rw [zn_l_get]; rfl
theorem zn_st_len {A : Nat → Nat} : ∀ {va : List zNV} {vals : List Value}, zn_st A va vals → vals.length = va.length
  | [], k, h => by
    have h : k = [] := h
    rw [h]; rfl
  | v :: S, k, ⟨w, k', e, _, h⟩ => by rw [e]; simp [zn_st_len h]
theorem zn_st_get {A : Nat → Nat} : ∀ {va : List zNV} {vals : List Value}, zn_st A va vals → ∀ {i : Nat} {v : zNV}, va[i]? = some v → ∃ w, vals[i]? = some w ∧ zn_v A v w
  | [], _, _, _, _, h2 => by simp at h2
  | v :: S, k, ⟨w, k', e, hv, h⟩, 0, u, h2 => by
    have : v = u := by simpa using h2
    subst this; subst e
    exact ⟨w, rfl, hv⟩
  | v :: S, k, ⟨w, k', e, hv, h⟩, i + 1, u, h2 => by
    subst e
    obtain ⟨x, x1, x2⟩ := zn_st_get h (i := i) (by simpa using h2)
    exact ⟨x, by simpa using x1, x2⟩
theorem zn_st_cat {A : Nat → Nat} : ∀ {va : List zNV} {vals : List Value}, zn_st A va vals → ∀ v ∈ vals, v.category = 1
  | [], k, h, v, hv => by
    have h : k = [] := h
    rw [h] at hv; exact absurd hv List.not_mem_nil
  | x :: S, k, ⟨w, k', e, hx, h⟩, v, hv => by
    subst e
    rcases List.mem_cons.mp hv with rfl | hv
    · exact zn_v1 hx
    · exact zn_st_cat h v hv
theorem zn_st_app {A : Nat → Nat} : ∀ {va vb : List zNV} {k : List Value}, zn_st A (va ++ vb) k → ∃ x z, k = x ++ z ∧ zn_st A va x ∧ zn_st A vb z
  | [], vb, k, h => ⟨[], k, rfl, rfl, h⟩
  | v :: va, vb, k, ⟨w, k', e, hv, h⟩ => by
    obtain ⟨x, z, e2, h1, h2⟩ := zn_st_app (va := va) (vb := vb) h
    exact ⟨w :: x, z, by rw [e, e2]; rfl, ⟨w, x, rfl, hv, h1⟩, h2⟩
theorem zn_st_mk {A : Nat → Nat} : ∀ {va vb : List zNV} {x z : List Value}, zn_st A va x → zn_st A vb z → zn_st A (va ++ vb) (x ++ z)
  | [], vb, x, z, h, h2 => by
    have h : x = [] := h
    rw [h]; exact h2
  | v :: va, vb, x, z, ⟨w, k', e, hv, h⟩, h2 => by
    subst e
    exact ⟨w, k' ++ z, rfl, hv, zn_st_mk h h2⟩
theorem zn_st_rev {A : Nat → Nat} : ∀ {va : List zNV} {x : List Value}, zn_st A va x → zn_st A va.reverse x.reverse
  | [], x, h => by
    have h : x = [] := h
    rw [h]; rfl
  | v :: va, x, ⟨w, k', e, hv, h⟩ => by
    subst e
    rw [List.reverse_cons, List.reverse_cons]
    exact zn_st_mk (zn_st_rev h) ⟨w, [], rfl, hv, rfl⟩
theorem zn_sum1 : ∀ {k : List Value}, (∀ v ∈ k, v.category = 1) → (k.map fun v => v.category).sum = k.length
  | [], _ => rfl
  | v :: k, h => by
    rw [List.map_cons, List.sum_cons, h v List.mem_cons_self, zn_sum1 (fun x hx => h x (List.mem_cons_of_mem _ hx))]
    simp [Nat.add_comm]
theorem zn_blind {D : va_G} {DA : Nat → ClassId} {cl : List vw_C} {y : zNL} {sz : Nat} {A : Nat → Nat} {va : List zNV} {F : List Int} {G : List (Int → Int)} {KX : State → Heap → Prop} (hXp : z_KXp sz KX) : FrameBlind (zn_Pre D DA cl y sz KX A va F G) := by
  intro a U gf mk h
  obtain ⟨vals, h1, h2, h3, h4, h5, h6⟩ := h
  exact ⟨vals, h1, h2, h3, h4, va_K.moved (u := U) (U := U.calling gf mk a) (Vm.Alike.refl U.vm) h5, hXp.2.2 U (U.calling gf mk a) _ rfl h6⟩
end
section
/-! Calls over named cells; a method's contract. -/
/-- the method that is called -/
def zn_lk (K : zK) (MT : List zM) (kinds : Nat → Bool) (i : Nat) : Option zM := match (k_LK K).find? (fun q => Nat.beq q.1 i && kinds q.2.1) with
  | some q => MT[q.2.2]?
  | none => none
section ZNCALL
variable {cl : List vw_C} {FT : Nat → Nat → FieldType} {KXf : (Nat → Nat) → Nat → State → Heap → Prop} {TBL : List Cond} {MT : List zM} {y : zNL} {mm : zM} {K : zK} {rm : Nat × Nat} {good : Nat → List zNV → List zNV → List Int → List (Int → Int) → Prop}
variable {pc : Nat} {L S : List zNV} {F : List Int} {G : List (Int → Int)}
theorem zn_lk_ok {kinds : Nat → Bool} {i : Nat} {mm2 : zM} {Ts : List Cond} {own : String} (hKS : z_KS Ts TBL cl FT own MT K) (h : zn_lk K MT kinds i = some mm2) (hk : ∀ k, kinds k = true → k ≤ 4) :
    ∃ k, kinds k = true ∧ z_lk Ts own k i mm2.1 mm2.2.1 mm2.2.2.1 mm2.2.2.2.1 mm2.2.2.2.2.1 ∧ (k = 0 → ∃ r, cl[mm2.2.2.2.2.2]? = some r ∧ r.1 = mm2.1.cls) := by
  unfold zn_lk at h
  split at h
  · rename_i q hq
    have hm := List.mem_of_find?_eq_some hq
    have hp := List.find?_some hq
    have hp : (Nat.beq q.1 i && kinds q.2.1) = true := hp
    rw [Bool.and_eq_true] at hp
    obtain ⟨m3, x1, x2, x3⟩ := (hKS.2.2.1 q hm).2.2 (hk _ hp.2)
    rw [h] at x1
    cases x1
    rw [z_beq hp.1] at x2
    exact ⟨q.2.1, hp.2, x2, x3⟩
  · cases h
theorem zn_after {p : Program} {l : Launch} {e : Env} {R : Room} {s : State} {m : MethodId} {args : Array Value} {below : List Frame} {meth : Method} {c : Code} {Q : State → Prop} {sz : Nat} {H0 H : Heap} {locs : List Loc} {cells slots : Nat} {ls : Array Slot} {st0 rest : List Value} {Qz : State → Outcome → State → Prop}
    (hr : va_Run p l e R s m args below meth c H locs cells slots 0 0 (F0 m pc ls st0) rest Qz (fun q => sz ≤ q)) (hS : va_S (fun q => sz ≤ q) H0 H locs)
    (hQ : ∀ (v : Option Value) (s1 t : State), s1.heap = H → Qz s1 (.returned v) t → t.heap.size = H.size ∧ ∀ q : Nat, ¬ sz ≤ q → t.heap[q]? = H[q]?)
    (kk : ∀ (v : Option Value) (s1 t : State) (locs1 : List Loc), s1.heap = H → Qz s1 (.returned v) t → va_S (fun q => sz ≤ q) H0 t.heap locs1 → W p l e R s m args below meth c t.heap locs1 cells slots Q (F0 m (pc + 3) ls (v.toList ++ rest))) : W p l e R s m args below meth c H locs cells slots Q (F0 m pc ls st0) := by
  intro T1 hT X
  obtain ⟨v, st₀, t, T', L, h0, X', hL, e1, e2, hq, st⟩ := hr T1 hT X
  obtain ⟨q1, q2⟩ := hQ v st₀ t h0 hq
  obtain ⟨t2, a1, b1⟩ := kk v st₀ t (locs ++ L) h0 hq ⟨by rw [q1]; exact hS.1, fun q h1 h2 => by rw [q2 q h2]; exact hS.2.1 q h1 h2, fun q hq => by
      rcases List.mem_append.mp hq with h | h
      · exact hS.2.2 q h
      · exact hL q h⟩ T' e1 X'
  exact ⟨t2, st t2 a1, b1⟩
theorem zn_inv0 (hB : zn_B cl FT KXf TBL MT y mm K rm good) {i c : Nat} {mm2 : zM} {rm2 : Nat × Nat} {P2 : zNP} {Q2 : zNQ} {va : List zNV} (hok : zn_OK TBL cl KXf y mm2 rm2 P2 Q2) (hd : decode mm.2.1 pc = .ok (.invokevirtual i, 3)) (hl : zn_lk K MT (fun k => Nat.beq k 0) i = some mm2)
    (hc : (n_O y).any (fun o => Nat.beq o.1 c && Nat.beq o.2 mm2.2.2.2.2.2) = true) (hn : Nat.beq va.length mm2.2.2.2.2.1 = true) (hS : Nat.ble S.length 8 = true) (hr : (Nat.ble (rm2.1 + 1) rm.1 && Nat.ble (8 + (mm2.2.2.1 + 11) + rm2.2) rm.2) = true)
    (hP : P2 (.inr c :: va) F G) (k : ∀ r F' G', Q2 (.inr c :: va) F G r F' G' → good (pc + 3) L (zn_ro r S) F' G') : good pc L (va.reverse ++ .inr c :: S) F G := by
  obtain ⟨p, l, e, R, s, m, args, below, meth, cc, Q, OB, D, DA, sz, A, H0, Ts, cells, slots, ⟨hx, hb, hml, hD, hKS⟩, ⟨hsz, hXp, hX, hrf, hrl, hrc, hrs⟩, ⟨hwf, hinj, hge⟩, hg⟩ := hB
  refine (hg _ _ _ _ _).mpr fun H locs ls stk h1 h2 h3 h4 h5 => ?_
  obtain ⟨kd, kd1, hlk, hci⟩ := zn_lk_ok hKS hl (fun k hk => by rw [z_beq hk]; omega)
  have : kd = 0 := z_beq kd1
  subst this
  obtain ⟨hcode, hini, hmh, hnp, k1, k2, k3⟩ := hlk
  obtain ⟨hts, hown, hK, htys⟩ := hD
  obtain ⟨va1, st1, rfl, hv1, w0, st2, rfl, hw, h6⟩ := zn_st_app h5
  have hw : w0 = .ref (A c) := hw
  subst hw
  have hrev : ∃ vb, va1 = vb.reverse ∧ zn_st A va vb := ⟨va1.reverse, by rw [List.reverse_reverse], by have := zn_st_rev hv1; rwa [List.reverse_reverse] at this⟩
  obtain ⟨vb, rfl, hvb⟩ := hrev
  obtain ⟨o, ho, ho2⟩ := List.any_eq_true.mp hc
  rw [Bool.and_eq_true] at ho2
  obtain ⟨o1, o2⟩ := o
  have e1 : o1 = c := z_beq ho2.1
  have e2 : o2 = mm2.2.2.2.2.2 := z_beq ho2.2
  subst e1; subst e2
  obtain ⟨r, V, y3, ⟨cell, y5, y6, y7, y8⟩⟩ := h1.1 _ ho
  obtain ⟨r2, hr2, hr3⟩ := hci rfl
  have y3 : cl[mm2.2.2.2.2.2]? = some r := y3
  rw [y3] at hr2
  cases hr2
  have hnp2 : ∀ sig, parseMethodDescriptor mm2.1.desc = some sig → mm2.2.2.2.2.1 = sig.parameters.length := by
    intro sig hsig
    rw [hsig] at hnp
    exact (Option.some.inj hnp).symm
  have hgd := hKS.2.2.2.2.2.1
  have hwsG : ∀ w ∈ (Cond.code mm2.1 mm2.2.1 mm2.2.2.1 mm2.2.2.2.1 :: TBL), ∀ (a' : Array Value) (U : State), s.WarmedH U.vm → w.before a' U = true := by
    refine z_pay hts (fun w hw => ?_)
    rcases List.mem_cons.mp hw with rfl | hw
    · exact ⟨hcode, rfl⟩
    · exact ⟨(hgd w hw).1, (hgd w hw).2⟩
  rw [Bool.and_eq_true] at hr
  have r1 := Nat.le_of_ble_eq_true hr.1
  have r2 := Nat.le_of_ble_eq_true hr.2
  have hH : sz ≤ H.size := by rw [h2.1]; exact hsz
  have hXH : KXf OB sz s H := hXp.2.1 s H0 H hX h3.1 h3.2.1
  have hlen := zn_st_len hvb
  have hst : zn_st A (.inr o1 :: va) (.ref (A o1) :: vb) := ⟨_, _, rfl, rfl, hvb⟩
  have hpre : ∀ U : State, U.heap = H → s.WarmedH U.vm → zn_Pre D DA cl y sz (KXf OB sz) A (.inr o1 :: va) F G (Value.ref (A o1) :: vb).toArray U := fun U hU hW => ⟨_, rfl, hst, by rw [hU]; exact h1, by rw [hU]; exact hH, va_K.moved hW.alike hK, by rw [hU]; exact hXp.1 s U H hXH hW⟩
  have hsum : (st2.map fun v => v.category).sum ≤ 8 := by
    rw [zn_sum1 (zn_st_cat h6), zn_st_len h6]
    exact Nat.le_of_ble_eq_true hS
  refine zn_after (va_runV (b := A o1) (As := vb) (rest := st2) (C := mm2.1.cls) (n := mm2.2.2.2.2.1) ⟨hx, hb, hml, hown, hts⟩ (hok l OB D DA sz A _ F G hP hinj hge) ⟨⟨rfl, rfl, by show rm2.1 + 1 ≤ _; omega, by show 8 + (mm2.2.2.1 + 11) + rm2.2 ≤ _; omega, hwsG, List.mem_cons_self, hts _ hcode, hts _ hini, hmh, hnp2, hts _ k1⟩, hts _ k2, hts _ k3⟩ ⟨zn_blind hXp, ⟨cell, y5, by rw [y7]; rfl, by rw [← hr3, y6]; exact (hK.1 _ _ y3).2.1⟩, hpre⟩ rfl (hlen.trans (z_beq hn)) (by obtain ⟨lv, z1, _⟩ := h4; exact z1.1) rfl (lv_room hsum) hd ⟨hrc, hrs⟩) h3 ?_ ?_
  · intro v s1 t hs1 hq
    obtain ⟨r', v', F', G', e0, q1, q2, q3, q4⟩ := hq
    rw [hs1] at q3
    exact ⟨q3.1, fun q hq => q3.2.1 q (fun c2 hc2 e => hq (by rw [← e]; exact hge _ hc2))⟩
  · intro v s1 t locs1 hs1 hq hS1
    obtain ⟨r', v', F', G', e0, q1, q2, q3, q4⟩ := hq
    have e0 : v = v' := Outcome.returned.inj e0
    subst e0
    rw [hs1] at q3
    refine (hg _ _ _ _ _).mp (k r' F' G' q4) t.heap locs1 ls _ q2 (zn_frm_tr h2 q3) hS1 h4 ?_
    match r', v, q1 with
    | none, none, _ => exact h6
    | some x, some w, ⟨z, z1, z2⟩ => exact ⟨w, st2, rfl, ⟨z, z1, z2⟩, h6⟩
theorem zn_inv1 (hB : zn_B cl FT KXf TBL MT y mm K rm good) {i : Nat} {mm2 : zM} {rm2 : Nat × Nat} {P2 : zNP} {Q2 : zNQ} {va : List zNV} (hok : zn_OK TBL cl KXf y mm2 rm2 P2 Q2) (hd : decode mm.2.1 pc = .ok (.invokestatic i, 3)) (hl : zn_lk K MT (fun k => Nat.beq k 1 || Nat.beq k 4) i = some mm2)
    (hn : Nat.beq va.length mm2.2.2.2.2.1 = true) (hS : Nat.ble S.length 8 = true) (hr : (Nat.ble (rm2.1 + 1) rm.1 && Nat.ble (8 + (mm2.2.2.1 + 11) + rm2.2) rm.2) = true)
    (hP : P2 va F G) (k : ∀ r F' G', Q2 va F G r F' G' → good (pc + 3) L (zn_ro r S) F' G') : good pc L (va.reverse ++ S) F G := by
  obtain ⟨p, l, e, R, s, m, args, below, meth, cc, Q, OB, D, DA, sz, A, H0, Ts, cells, slots, ⟨hx, hb, hml, hD, hKS⟩, ⟨hsz, hXp, hX, hrf, hrl, hrc, hrs⟩, ⟨hwf, hinj, hge⟩, hg⟩ := hB
  refine (hg _ _ _ _ _).mpr fun H locs ls stk h1 h2 h3 h4 h5 => ?_
  obtain ⟨kd, kd1, hlk, hci⟩ := zn_lk_ok hKS hl (fun k hk => by
    rw [Bool.or_eq_true] at hk
    rcases hk with hk | hk <;> (rw [z_beq hk]; omega))
  obtain ⟨hcode, hini, hmh, hnp, hkind⟩ := hlk
  obtain ⟨hts, hown, hK, htys⟩ := hD
  obtain ⟨va1, st2, rfl, hv1, h6⟩ := zn_st_app h5
  have hrev : ∃ vb, va1 = vb.reverse ∧ zn_st A va vb := ⟨va1.reverse, by rw [List.reverse_reverse], by have := zn_st_rev hv1; rwa [List.reverse_reverse] at this⟩
  obtain ⟨vb, rfl, hvb⟩ := hrev
  have hnp2 : ∀ sig, parseMethodDescriptor mm2.1.desc = some sig → mm2.2.2.2.2.1 = sig.parameters.length := by
    intro sig hsig
    rw [hsig] at hnp
    exact (Option.some.inj hnp).symm
  have hgd := hKS.2.2.2.2.2.1
  have hwsG : ∀ w ∈ (Cond.code mm2.1 mm2.2.1 mm2.2.2.1 mm2.2.2.2.1 :: TBL), ∀ (a' : Array Value) (U : State), s.WarmedH U.vm → w.before a' U = true := by
    refine z_pay hts (fun w hw => ?_)
    rcases List.mem_cons.mp hw with rfl | hw
    · exact ⟨hcode, rfl⟩
    · exact ⟨(hgd w hw).1, (hgd w hw).2⟩
  rw [Bool.and_eq_true] at hr
  have r1 := Nat.le_of_ble_eq_true hr.1
  have r2 := Nat.le_of_ble_eq_true hr.2
  have hH : sz ≤ H.size := by rw [h2.1]; exact hsz
  have hXH : KXf OB sz s H := hXp.2.1 s H0 H hX h3.1 h3.2.1
  have hlen := zn_st_len hvb
  have hpre : ∀ U : State, U.heap = H → s.WarmedH U.vm → zn_Pre D DA cl y sz (KXf OB sz) A va F G vb.toArray U := fun U hU hW => ⟨_, rfl, hvb, by rw [hU]; exact h1, by rw [hU]; exact hH, va_K.moved hW.alike hK, by rw [hU]; exact hXp.1 s U H hXH hW⟩
  have hsum : (st2.map fun v => v.category).sum ≤ 8 := by
    rw [zn_sum1 (zn_st_cat h6), zn_st_len h6]
    exact Nat.le_of_ble_eq_true hS
  have run : va_Run p l e R s m args below meth cc H locs cells slots 0 0 (F0 m pc ls (vb.reverse ++ st2)) st2 (zn_Post D DA cl y A va F G Q2 vb.toArray) (fun q => sz ≤ q) := by
    rw [Bool.or_eq_true] at kd1
    rcases kd1 with kd1 | kd1
    · have : kd = 1 := z_beq kd1
      subst this
      obtain ⟨k1, k2⟩ := hkind
      exact va_runS (As := vb) (rest := st2) (n := mm2.2.2.2.2.1) ⟨hx, hb, hml, hown, hts⟩ (hok l OB D DA sz A _ F G hP hinj hge) ⟨⟨rfl, rfl, by show rm2.1 + 1 ≤ _; omega, by show 8 + (mm2.2.2.1 + 11) + rm2.2 ≤ _; omega, hwsG, List.mem_cons_self, hts _ hcode, hts _ hini, hmh, hnp2, hts _ k1⟩, hts _ k2⟩ ⟨zn_blind hXp, hpre⟩ rfl (hlen.trans (z_beq hn)) (by obtain ⟨lv, z1, _⟩ := h4; exact z1.1) rfl (lv_room hsum) hd ⟨hrc, hrs⟩
    · have : kd = 4 := z_beq kd1
      subst this
      obtain ⟨⟨host, k1⟩, k2⟩ := hkind
      exact va_runSN (As := vb) (rest := st2) (n := mm2.2.2.2.2.1) ⟨hx, hb, hml, hown, hts⟩ (hok l OB D DA sz A _ F G hP hinj hge) ⟨⟨⟨rfl, rfl, by show rm2.1 + 1 ≤ _; omega, by show 8 + (mm2.2.2.1 + 11) + rm2.2 ≤ _; omega, hwsG, List.mem_cons_self⟩, hts _ hcode, hts _ hini, hmh, hnp2, hts _ k1⟩, hts _ k2, trivial⟩ ⟨zn_blind hXp, hpre⟩ rfl (hlen.trans (z_beq hn)) (by obtain ⟨lv, z1, _⟩ := h4; exact z1.1) rfl (lv_room hsum) hd ⟨hrc, hrs⟩
  refine zn_after run h3 ?_ ?_
  · intro v s1 t hs1 hq
    obtain ⟨r', v', F', G', e0, q1, q2, q3, q4⟩ := hq
    rw [hs1] at q3
    exact ⟨q3.1, fun q hq => q3.2.1 q (fun c2 hc2 e => hq (by rw [← e]; exact hge _ hc2))⟩
  · intro v s1 t locs1 hs1 hq hS1
    obtain ⟨r', v', F', G', e0, q1, q2, q3, q4⟩ := hq
    have e0 : v = v' := Outcome.returned.inj e0
    subst e0
    rw [hs1] at q3
    refine (hg _ _ _ _ _).mp (k r' F' G' q4) t.heap locs1 ls _ q2 (zn_frm_tr h2 q3) hS1 h4 ?_
    match r', v, q1 with
    | none, none, _ => exact h6
    | some x, some w, ⟨z, z1, z2⟩ => exact ⟨w, st2, rfl, ⟨z, z1, z2⟩, h6⟩
/-- what a method may answer by its type -/
def zn_rt (ret : Option FieldType) (r : Option Int) : Prop := match ret, r with
  | none, none => True
  | some .int, some _ => True
  | some .boolean, some v => 0 ≤ v ∧ v ≤ 1
  | _, _ => False
theorem zn_meth {P : zNP} {Qs : zNQ} {n : Nat} (hpl : plainFor mm.1 = true) (hKS : z_KS (Cond.code mm.1 mm.2.1 mm.2.2.1 mm.2.2.2.1 :: TBL) TBL cl FT mm.1.cls MT K) (hXp : ∀ OB sz, z_KXp sz (KXf OB sz)) (hwf : zn_wf y = true) (hn : ∀ va F G, P va F G → va.length = n) (hnl : Nat.ble n mm.2.2.1 = true)
    (body : ∀ (good : Nat → List zNV → List zNV → List Int → List (Int → Int) → Prop) (va : List zNV) (F : List Int) (G : List (Int → Int)), zn_B cl FT KXf TBL MT y mm K rm good → (∀ pc L v F' G', decode mm.2.1 pc = .ok (.ireturn, 1) → zn_rt mm.2.2.2.1 (some v) → Qs va F G (some v) F' G' → good pc L [.inl v] F' G') → (∀ pc L F' G', decode mm.2.1 pc = .ok (.return_, 1) → zn_rt mm.2.2.2.1 none → Qs va F G none F' G' → good pc L [] F' G') →
      P va F G → good 0 (va ++ List.replicate (mm.2.2.1 - n) (.inr 1000)) [] F G) : zn_OK TBL cl KXf y mm rm P Qs := by
  intro l OB D DA sz A va F G hP hinj hge
  refine va_MetF (cc := mm.2.1) (maxL := mm.2.2.1) (ret := mm.2.2.2.1) hpl rfl ?_
  intro p e s m args below meth c s₁ B hml hPre
  obtain ⟨vals, e0, hst, hrep, hsz, hK, hX⟩ := hPre
  subst e0
  have hlen := zn_st_len hst
  have hcat := zn_st_cat hst
  have hn0 := hn va F G hP
  have hnl := Nat.le_of_ble_eq_true hnl
  have hts : ∀ w ∈ (Cond.code mm.1 mm.2.1 mm.2.2.1 mm.2.2.2.1 :: TBL), w.before vals.toArray s = true := atoms_spec (ws := Cond.code mm.1 mm.2.1 mm.2.2.1 mm.2.2.2.1 :: TBL) B.pre
  have hown : s.vm.findClass mm.1.cls = some m.cls := findClass_of_methodNamed B.named
  have hD : z_Dy s m vals.toArray (Cond.code mm.1 mm.2.1 mm.2.2.1 mm.2.2.2.1 :: TBL) mm.1.cls D cl DA (z_tys DA) := ⟨hts, hown, hK, z_tys_ok DA⟩
  rw [lg_entry_eq]
  have hb2 := body (fun pc L S F2 G2 => ∀ H locs ls stk, zn_rep D DA cl y A F2 G2 H → zn_frm D cl y A s.heap H → va_S (fun q => sz ≤ q) s.heap H locs → zn_lv mm.2.2.1 ls A L → zn_st A S stk → W p l e { frames := rm.1, cells := 0, slots := 0, locals := rm.2 } s m vals.toArray below meth c H locs 0 0 (MQ below (zn_Post D DA cl y A va F G Qs) vals.toArray s 0 0 (fun q => sz ≤ q)) (F0 m pc ls stk)) va F G
    ⟨p, l, e, _, s, m, vals.toArray, below, meth, c, _, OB, D, DA, sz, A, s.heap, _, 0, 0, ⟨B.exec, B.bytes, hml, hD, hKS⟩, ⟨hsz, hXp OB sz, hX, Nat.le_refl _, Nat.le_refl _, Nat.zero_le _, Nat.zero_le _⟩, ⟨hwf, hinj, hge⟩, fun _ _ _ _ _ => Iff.rfl⟩ ?_ ?_ hP
  · refine hb2 s.heap [] _ [] hrep zn_frm_rf va_S.rf ?_ rfl
    obtain ⟨a1, a2, a3⟩ := z_args1 vals 0 hcat
    refine ⟨_, lv_entry vals (by rw [a1, hlen, hn0]; exact hnl), a2, fun i v hi hv => ?_⟩
    rw [zn_l_get] at hi
    by_cases hlt : i < va.length
    · rw [List.getElem?_append_left hlt] at hi
      obtain ⟨w, w1, w2⟩ := zn_st_get hst hi
      have := a3 i w w1
      rw [Nat.zero_add] at this
      exact ⟨w, w2, this⟩
    · rw [List.getElem?_append_right (by omega), List.getElem?_replicate] at hi
      split at hi
      · cases hi
        have hv : (1000 : Nat) < 1000 := hv
        omega
      · cases hi
  · intro pc L v F' G' hd hrt hq H locs ls stk h1 h2 h3 h4 h5
    obtain ⟨w, st2, rfl, ⟨x, rfl, rfl⟩, h6⟩ := h5
    have h6 : st2 = [] := h6
    subst h6
    unfold zn_rt at hrt
    split at hrt
    · rename_i e; cases e
    · rename_i hr _
      exact W.iret B.exec B.bytes (B.returns.trans hr) (fun t ht _ => ⟨some x.toInt, _, F', G', rfl, ⟨x, rfl, rfl⟩, by rw [ht]; exact h1, by rw [ht]; exact h2, hq⟩) (fun q hq => h3.2.2 q hq) hd B.notSynchronized
    · rename_i v2 hr e
      cases e
      have hnr : narrow .boolean (.int x) = .int x := by
        have hx : x.toInt = 0 ∨ x.toInt = 1 := by omega
        rcases hx with hx | hx
        · have : x = 0 := z_int0 hx
          subst this
          rfl
        · have : x = 1 := Int32.toInt_inj.mp (by rw [hx]; rfl)
          subst this
          rfl
      exact W.zret B.exec B.bytes (B.returns.trans hr) hnr (fun t ht _ => ⟨some x.toInt, _, F', G', rfl, ⟨x, rfl, rfl⟩, by rw [ht]; exact h1, by rw [ht]; exact h2, hq⟩) (fun q hq => h3.2.2 q hq) hd B.notSynchronized
    · exact absurd hrt (fun h => h)
  · intro pc L F' G' hd hrt hq H locs ls stk h1 h2 h3 h4 h5
    have h5 : stk = [] := h5
    subst h5
    have hr : mm.2.2.2.1 = none := by
      unfold zn_rt at hrt
      split at hrt
      · rename_i hr _; exact hr
      · rename_i e; cases e
      · rename_i e; cases e
      · exact absurd hrt (fun h => h)
    exact W.vret B.exec B.bytes (B.returns.trans hr) (fun t ht _ => ⟨none, none, F', G', rfl, trivial, by rw [ht]; exact h1, by rw [ht]; exact h2, hq⟩) (fun q hq => h3.2.2 q hq) hd B.notSynchronized
end ZNCALL
end
section
/-! Divisions of numbers that are not below 0; calls by how many arguments there are. -/
theorem zn_div_eq {u v : Int32} {a b : Int} (hu : u.toInt = a) (hv : v.toInt = b) (ha : 0 ≤ a) (hb : 0 < b) : (u / v).toInt = a / b := by
  have h1 := z_hi u
  have h2 : a / b ≤ a := by
    rcases Int.lt_or_le b 2 with h | h
    · have : b = 1 := by omega
      subst this; simp
    · exact Int.ediv_le_self b ha
  have h3 : 0 ≤ a / b := Int.ediv_nonneg ha (by omega)
  rw [Int32.toInt_div, hu, hv, Int.tdiv_eq_ediv_of_nonneg ha]
  exact z_bmod (by omega) (by omega)
theorem zn_rem_eq {u v : Int32} {a b : Int} (hu : u.toInt = a) (hv : v.toInt = b) (ha : 0 ≤ a) (hb : 0 < b) : (u - u / v * v).toInt = a % b := by
  have h1 := z_hi u
  have hq := zn_div_eq hu hv ha hb
  have e := Int.mul_ediv_add_emod a b
  have h3 : 0 ≤ a % b := Int.emod_nonneg _ (by omega)
  have h4 : 0 ≤ a / b := Int.ediv_nonneg ha (by omega)
  have h5 : 0 ≤ a / b * b := Int.mul_nonneg h4 (by omega)
  have e2 : b * (a / b) = a / b * b := Int.mul_comm _ _
  have hm : (u / v * v).toInt = a / b * b := by
    rw [Int32.toInt_mul, hq, hv]
    exact z_bmod (by omega) (by omega)
  rw [Int32.toInt_sub, hm, hu]
  have : a - a / b * b = a % b := by omega
  rw [this]
  exact z_bmod (by omega) (by omega)
section ZNDIV
variable {cl : List vw_C} {FT : Nat → Nat → FieldType} {KXf : (Nat → Nat) → Nat → State → Heap → Prop} {TBL : List Cond} {MT : List zM} {y : zNL} {mm : zM} {K : zK} {rm : Nat × Nat} {good : Nat → List zNV → List zNV → List Int → List (Int → Int) → Prop}
variable {pc : Nat} {L S : List zNV} {F : List Int} {G : List (Int → Int)}
theorem zn_idiv (hB : zn_B cl FT KXf TBL MT y mm K rm good) {a b : Int} (hd : decode mm.2.1 pc = .ok (.idiv, 1)) (ha : 0 ≤ a) (hb : 0 < b) (k : good (pc + 1) L (.inl (a / b) :: S) F G) : good pc L (.inl b :: .inl a :: S) F G :=
  zn_bin0 hB hd rfl (by omega) fun u v hu hv => by
    show good _ _ (.inl (u / v).toInt :: _) _ _
    rw [zn_div_eq hu hv ha hb]; exact k
theorem zn_irem (hB : zn_B cl FT KXf TBL MT y mm K rm good) {a b : Int} (hd : decode mm.2.1 pc = .ok (.irem, 1)) (ha : 0 ≤ a) (hb : 0 < b) (k : good (pc + 1) L (.inl (a % b) :: S) F G) : good pc L (.inl b :: .inl a :: S) F G :=
  zn_bin0 hB hd rfl (by omega) fun u v hu hv => by
    show good _ _ (.inl (u - u / v * v).toInt :: _) _ _
    rw [zn_rem_eq hu hv ha hb]; exact k
section ZNARITY
variable {i : Nat} {mm2 : zM} {rm2 : Nat × Nat} {P2 : zNP} {Q2 : zNQ} {c : Nat} {a b d e : zNV}
theorem zn_iv0 (hB : zn_B cl FT KXf TBL MT y mm K rm good) (hok : zn_OK TBL cl KXf y mm2 rm2 P2 Q2) (hd : decode mm.2.1 pc = .ok (.invokevirtual i, 3)) (hl : zn_lk K MT (fun k => Nat.beq k 0) i = some mm2) (hc : ((n_O y).any (fun o => Nat.beq o.1 c && Nat.beq o.2 mm2.2.2.2.2.2) && Nat.beq 0 mm2.2.2.2.2.1 && Nat.ble S.length 8 && (Nat.ble (rm2.1 + 1) rm.1 && Nat.ble (8 + (mm2.2.2.1 + 11) + rm2.2) rm.2)) = true)
    (hP : P2 [.inr c] F G) (k : ∀ r F' G', Q2 [.inr c] F G r F' G' → good (pc + 3) L (zn_ro r S) F' G') : good pc L (.inr c :: S) F G := by
  rw [Bool.and_eq_true, Bool.and_eq_true, Bool.and_eq_true] at hc
  exact zn_inv0 (va := []) hB hok hd hl hc.1.1.1 hc.1.1.2 hc.1.2 hc.2 hP k
theorem zn_iv1 (hB : zn_B cl FT KXf TBL MT y mm K rm good) (hok : zn_OK TBL cl KXf y mm2 rm2 P2 Q2) (hd : decode mm.2.1 pc = .ok (.invokevirtual i, 3)) (hl : zn_lk K MT (fun k => Nat.beq k 0) i = some mm2) (hc : ((n_O y).any (fun o => Nat.beq o.1 c && Nat.beq o.2 mm2.2.2.2.2.2) && Nat.beq 1 mm2.2.2.2.2.1 && Nat.ble S.length 8 && (Nat.ble (rm2.1 + 1) rm.1 && Nat.ble (8 + (mm2.2.2.1 + 11) + rm2.2) rm.2)) = true)
    (hP : P2 [.inr c, a] F G) (k : ∀ r F' G', Q2 [.inr c, a] F G r F' G' → good (pc + 3) L (zn_ro r S) F' G') : good pc L (a :: .inr c :: S) F G := by
  rw [Bool.and_eq_true, Bool.and_eq_true, Bool.and_eq_true] at hc
  exact zn_inv0 (va := [a]) hB hok hd hl hc.1.1.1 hc.1.1.2 hc.1.2 hc.2 hP k
theorem zn_iv2 (hB : zn_B cl FT KXf TBL MT y mm K rm good) (hok : zn_OK TBL cl KXf y mm2 rm2 P2 Q2) (hd : decode mm.2.1 pc = .ok (.invokevirtual i, 3)) (hl : zn_lk K MT (fun k => Nat.beq k 0) i = some mm2) (hc : ((n_O y).any (fun o => Nat.beq o.1 c && Nat.beq o.2 mm2.2.2.2.2.2) && Nat.beq 2 mm2.2.2.2.2.1 && Nat.ble S.length 8 && (Nat.ble (rm2.1 + 1) rm.1 && Nat.ble (8 + (mm2.2.2.1 + 11) + rm2.2) rm.2)) = true)
    (hP : P2 [.inr c, a, b] F G) (k : ∀ r F' G', Q2 [.inr c, a, b] F G r F' G' → good (pc + 3) L (zn_ro r S) F' G') : good pc L (b :: a :: .inr c :: S) F G := by
  rw [Bool.and_eq_true, Bool.and_eq_true, Bool.and_eq_true] at hc
  exact zn_inv0 (va := [a, b]) hB hok hd hl hc.1.1.1 hc.1.1.2 hc.1.2 hc.2 hP k
theorem zn_iv3 (hB : zn_B cl FT KXf TBL MT y mm K rm good) (hok : zn_OK TBL cl KXf y mm2 rm2 P2 Q2) (hd : decode mm.2.1 pc = .ok (.invokevirtual i, 3)) (hl : zn_lk K MT (fun k => Nat.beq k 0) i = some mm2) (hc : ((n_O y).any (fun o => Nat.beq o.1 c && Nat.beq o.2 mm2.2.2.2.2.2) && Nat.beq 3 mm2.2.2.2.2.1 && Nat.ble S.length 8 && (Nat.ble (rm2.1 + 1) rm.1 && Nat.ble (8 + (mm2.2.2.1 + 11) + rm2.2) rm.2)) = true)
    (hP : P2 [.inr c, a, b, d] F G) (k : ∀ r F' G', Q2 [.inr c, a, b, d] F G r F' G' → good (pc + 3) L (zn_ro r S) F' G') : good pc L (d :: b :: a :: .inr c :: S) F G := by
  rw [Bool.and_eq_true, Bool.and_eq_true, Bool.and_eq_true] at hc
  exact zn_inv0 (va := [a, b, d]) hB hok hd hl hc.1.1.1 hc.1.1.2 hc.1.2 hc.2 hP k
theorem zn_it1 (hB : zn_B cl FT KXf TBL MT y mm K rm good) (hok : zn_OK TBL cl KXf y mm2 rm2 P2 Q2) (hd : decode mm.2.1 pc = .ok (.invokestatic i, 3)) (hl : zn_lk K MT (fun k => Nat.beq k 1 || Nat.beq k 4) i = some mm2) (hc : (Nat.beq 1 mm2.2.2.2.2.1 && Nat.ble S.length 8 && (Nat.ble (rm2.1 + 1) rm.1 && Nat.ble (8 + (mm2.2.2.1 + 11) + rm2.2) rm.2)) = true)
    (hP : P2 [a] F G) (k : ∀ r F' G', Q2 [a] F G r F' G' → good (pc + 3) L (zn_ro r S) F' G') : good pc L (a :: S) F G := by
  rw [Bool.and_eq_true, Bool.and_eq_true] at hc
  exact zn_inv1 (va := [a]) hB hok hd hl hc.1.1 hc.1.2 hc.2 hP k
theorem zn_it2 (hB : zn_B cl FT KXf TBL MT y mm K rm good) (hok : zn_OK TBL cl KXf y mm2 rm2 P2 Q2) (hd : decode mm.2.1 pc = .ok (.invokestatic i, 3)) (hl : zn_lk K MT (fun k => Nat.beq k 1 || Nat.beq k 4) i = some mm2) (hc : (Nat.beq 2 mm2.2.2.2.2.1 && Nat.ble S.length 8 && (Nat.ble (rm2.1 + 1) rm.1 && Nat.ble (8 + (mm2.2.2.1 + 11) + rm2.2) rm.2)) = true)
    (hP : P2 [a, b] F G) (k : ∀ r F' G', Q2 [a, b] F G r F' G' → good (pc + 3) L (zn_ro r S) F' G') : good pc L (b :: a :: S) F G := by
  rw [Bool.and_eq_true, Bool.and_eq_true] at hc
  exact zn_inv1 (va := [a, b]) hB hok hd hl hc.1.1 hc.1.2 hc.2 hP k
theorem zn_it3 (hB : zn_B cl FT KXf TBL MT y mm K rm good) (hok : zn_OK TBL cl KXf y mm2 rm2 P2 Q2) (hd : decode mm.2.1 pc = .ok (.invokestatic i, 3)) (hl : zn_lk K MT (fun k => Nat.beq k 1 || Nat.beq k 4) i = some mm2) (hc : (Nat.beq 3 mm2.2.2.2.2.1 && Nat.ble S.length 8 && (Nat.ble (rm2.1 + 1) rm.1 && Nat.ble (8 + (mm2.2.2.1 + 11) + rm2.2) rm.2)) = true)
    (hP : P2 [a, b, d] F G) (k : ∀ r F' G', Q2 [a, b, d] F G r F' G' → good (pc + 3) L (zn_ro r S) F' G') : good pc L (d :: b :: a :: S) F G := by
  rw [Bool.and_eq_true, Bool.and_eq_true] at hc
  exact zn_inv1 (va := [a, b, d]) hB hok hd hl hc.1.1 hc.1.2 hc.2 hP k
theorem zn_it4 (hB : zn_B cl FT KXf TBL MT y mm K rm good) (hok : zn_OK TBL cl KXf y mm2 rm2 P2 Q2) (hd : decode mm.2.1 pc = .ok (.invokestatic i, 3)) (hl : zn_lk K MT (fun k => Nat.beq k 1 || Nat.beq k 4) i = some mm2) (hc : (Nat.beq 4 mm2.2.2.2.2.1 && Nat.ble S.length 8 && (Nat.ble (rm2.1 + 1) rm.1 && Nat.ble (8 + (mm2.2.2.1 + 11) + rm2.2) rm.2)) = true)
    (hP : P2 [a, b, d, e] F G) (k : ∀ r F' G', Q2 [a, b, d, e] F G r F' G' → good (pc + 3) L (zn_ro r S) F' G') : good pc L (e :: d :: b :: a :: S) F G := by
  rw [Bool.and_eq_true, Bool.and_eq_true] at hc
  exact zn_inv1 (va := [a, b, d, e]) hB hok hd hl hc.1.1 hc.1.2 hc.2 hP k
end ZNARITY
end ZNDIV
end
section
/-! The tables' words. -/
/-- a private method of a class that the tables say can be made, by its rows of tables_1 -/
def lw_okq (q : MethodName × Nat) : Prop := (q.1.cls ≠ "java/lang/invoke/MethodHandle" ∧ q.1.cls ≠ "java/lang/invoke/VarHandle") ∧ Cond.instantiable q.1.cls q.2 ∈ tables_1 ∧ Cond.privateMethod q.1 ∈ tables_1 ∧ Cond.instanceMethod q.1 ∈ tables_1
theorem lw_p0 : lw_okq (⟨"StarTales$LawReader", "readClause", "()V"⟩, 5) := ⟨⟨by decide +kernel, by decide +kernel⟩, List.mem_of_getElem? (i := 207) (by decide +kernel), List.mem_of_getElem? (i := 592) (by decide +kernel), List.mem_of_getElem? (i := 593) (by decide +kernel)⟩
theorem lw_p1 : lw_okq (⟨"StarTales$LawReader", "peek", "()I"⟩, 5) := ⟨⟨by decide +kernel, by decide +kernel⟩, List.mem_of_getElem? (i := 207) (by decide +kernel), List.mem_of_getElem? (i := 596) (by decide +kernel), List.mem_of_getElem? (i := 597) (by decide +kernel)⟩
theorem lw_p2 : lw_okq (⟨"StarTales$LawReader", "fail", "(I)V"⟩, 5) := ⟨⟨by decide +kernel, by decide +kernel⟩, List.mem_of_getElem? (i := 207) (by decide +kernel), List.mem_of_getElem? (i := 600) (by decide +kernel), List.mem_of_getElem? (i := 601) (by decide +kernel)⟩
theorem lw_p3 : lw_okq (⟨"StarTales$LawReader", "readSum", "(I)V"⟩, 5) := ⟨⟨by decide +kernel, by decide +kernel⟩, List.mem_of_getElem? (i := 207) (by decide +kernel), List.mem_of_getElem? (i := 607) (by decide +kernel), List.mem_of_getElem? (i := 608) (by decide +kernel)⟩
theorem lw_p4 : lw_okq (⟨"StarTales$LawReader", "readTerm", "(I)V"⟩, 5) := ⟨⟨by decide +kernel, by decide +kernel⟩, List.mem_of_getElem? (i := 207) (by decide +kernel), List.mem_of_getElem? (i := 611) (by decide +kernel), List.mem_of_getElem? (i := 612) (by decide +kernel)⟩
theorem lw_p5 : lw_okq (⟨"StarTales$LawReader", "readFactor", "(I)V"⟩, 5) := ⟨⟨by decide +kernel, by decide +kernel⟩, List.mem_of_getElem? (i := 207) (by decide +kernel), List.mem_of_getElem? (i := 615) (by decide +kernel), List.mem_of_getElem? (i := 616) (by decide +kernel)⟩
theorem lw_p6 : lw_okq (⟨"StarTales$LawReader", "skip", "(I)V"⟩, 5) := ⟨⟨by decide +kernel, by decide +kernel⟩, List.mem_of_getElem? (i := 207) (by decide +kernel), List.mem_of_getElem? (i := 619) (by decide +kernel), List.mem_of_getElem? (i := 620) (by decide +kernel)⟩
theorem lw_p7 : lw_okq (⟨"StarTales$LawReader", "readNumber", "()V"⟩, 5) := ⟨⟨by decide +kernel, by decide +kernel⟩, List.mem_of_getElem? (i := 207) (by decide +kernel), List.mem_of_getElem? (i := 626) (by decide +kernel), List.mem_of_getElem? (i := 627) (by decide +kernel)⟩
theorem lw_p8 : lw_okq (⟨"StarTales$LawReader", "readCondition", "(I)V"⟩, 5) := ⟨⟨by decide +kernel, by decide +kernel⟩, List.mem_of_getElem? (i := 207) (by decide +kernel), List.mem_of_getElem? (i := 710) (by decide +kernel), List.mem_of_getElem? (i := 711) (by decide +kernel)⟩
theorem lw_p9 : lw_okq (⟨"StarTales$LawReader", "readPart", "(I)V"⟩, 5) := ⟨⟨by decide +kernel, by decide +kernel⟩, List.mem_of_getElem? (i := 207) (by decide +kernel), List.mem_of_getElem? (i := 714) (by decide +kernel), List.mem_of_getElem? (i := 715) (by decide +kernel)⟩
theorem lw_p10 : lw_okq (⟨"StarTales$LawReader", "readPiece", "(I)V"⟩, 5) := ⟨⟨by decide +kernel, by decide +kernel⟩, List.mem_of_getElem? (i := 207) (by decide +kernel), List.mem_of_getElem? (i := 718) (by decide +kernel), List.mem_of_getElem? (i := 719) (by decide +kernel)⟩
theorem lw_p11 : lw_okq (⟨"StarTales$LawReader", "readComparison", "(I)V"⟩, 5) := ⟨⟨by decide +kernel, by decide +kernel⟩, List.mem_of_getElem? (i := 207) (by decide +kernel), List.mem_of_getElem? (i := 722) (by decide +kernel), List.mem_of_getElem? (i := 723) (by decide +kernel)⟩
theorem lw_p12 : lw_okq (⟨"StarTales$Law", "hasLetter", "(II)Z"⟩, 15) := ⟨⟨by decide +kernel, by decide +kernel⟩, List.mem_of_getElem? (i := 134) (by decide +kernel), List.mem_of_getElem? (i := 734) (by decide +kernel), List.mem_of_getElem? (i := 735) (by decide +kernel)⟩
theorem lw_p13 : lw_okq (⟨"StarTales$Tale", "addLine", "(II)V"⟩, 3) := ⟨⟨by decide +kernel, by decide +kernel⟩, List.mem_of_getElem? (i := 229) (by decide +kernel), List.mem_of_getElem? (i := 753) (by decide +kernel), List.mem_of_getElem? (i := 754) (by decide +kernel)⟩
theorem lw_p14 : lw_okq (⟨"StarTales$Law", "run", "(II)Z"⟩, 15) := ⟨⟨by decide +kernel, by decide +kernel⟩, List.mem_of_getElem? (i := 134) (by decide +kernel), List.mem_of_getElem? (i := 814) (by decide +kernel), List.mem_of_getElem? (i := 815) (by decide +kernel)⟩
theorem lw_p15 : lw_okq (⟨"StarTales", "lookAndDraw", "(LStarTales$View;II)V"⟩, 19) := ⟨⟨by decide +kernel, by decide +kernel⟩, List.mem_of_getElem? (i := 24) (by decide +kernel), List.mem_of_getElem? (i := 823) (by decide +kernel), List.mem_of_getElem? (i := 824) (by decide +kernel)⟩
def lw_privs_1 : List (MethodName × Nat) := [(⟨"StarTales$LawReader", "readClause", "()V"⟩, 5), (⟨"StarTales$LawReader", "peek", "()I"⟩, 5), (⟨"StarTales$LawReader", "fail", "(I)V"⟩, 5), (⟨"StarTales$LawReader", "readSum", "(I)V"⟩, 5), (⟨"StarTales$LawReader", "readTerm", "(I)V"⟩, 5), (⟨"StarTales$LawReader", "readFactor", "(I)V"⟩, 5), (⟨"StarTales$LawReader", "skip", "(I)V"⟩, 5), (⟨"StarTales$LawReader", "readNumber", "()V"⟩, 5), (⟨"StarTales$LawReader", "readCondition", "(I)V"⟩, 5), (⟨"StarTales$LawReader", "readPart", "(I)V"⟩, 5), (⟨"StarTales$LawReader", "readPiece", "(I)V"⟩, 5), (⟨"StarTales$LawReader", "readComparison", "(I)V"⟩, 5), (⟨"StarTales$Law", "hasLetter", "(II)Z"⟩, 15), (⟨"StarTales$Tale", "addLine", "(II)V"⟩, 3), (⟨"StarTales$Law", "run", "(II)Z"⟩, 15), (⟨"StarTales", "lookAndDraw", "(LStarTales$View;II)V"⟩, 19)]
theorem lw_r1 : ∀ q ∈ lw_privs_1, lw_okq q := List.forall_mem_cons.mpr ⟨lw_p0, List.forall_mem_cons.mpr ⟨lw_p1, List.forall_mem_cons.mpr ⟨lw_p2, List.forall_mem_cons.mpr ⟨lw_p3, List.forall_mem_cons.mpr ⟨lw_p4, List.forall_mem_cons.mpr ⟨lw_p5, List.forall_mem_cons.mpr ⟨lw_p6, List.forall_mem_cons.mpr ⟨lw_p7, List.forall_mem_cons.mpr ⟨lw_p8, List.forall_mem_cons.mpr ⟨lw_p9, List.forall_mem_cons.mpr ⟨lw_p10, List.forall_mem_cons.mpr ⟨lw_p11, List.forall_mem_cons.mpr ⟨lw_p12, List.forall_mem_cons.mpr ⟨lw_p13, List.forall_mem_cons.mpr ⟨lw_p14, List.forall_mem_cons.mpr ⟨lw_p15, fun _ h => absurd h List.not_mem_nil⟩⟩⟩⟩⟩⟩⟩⟩⟩⟩⟩⟩⟩⟩⟩⟩
theorem lw_p16 : lw_okq (⟨"StarTales$View", "isDrawn", "(II)Z"⟩, 10) := ⟨⟨by decide +kernel, by decide +kernel⟩, List.mem_of_getElem? (i := 249) (by decide +kernel), List.mem_of_getElem? (i := 831) (by decide +kernel), List.mem_of_getElem? (i := 832) (by decide +kernel)⟩
theorem lw_p17 : lw_okq (⟨"StarTales$Matcher", "begin", "(LStarTales$Tale;I[I)V"⟩, 7) := ⟨⟨by decide +kernel, by decide +kernel⟩, List.mem_of_getElem? (i := 296) (by decide +kernel), List.mem_of_getElem? (i := 896) (by decide +kernel), List.mem_of_getElem? (i := 897) (by decide +kernel)⟩
theorem lw_p18 : lw_okq (⟨"StarTales$Matcher", "withLegs", "(II)I"⟩, 7) := ⟨⟨by decide +kernel, by decide +kernel⟩, List.mem_of_getElem? (i := 296) (by decide +kernel), List.mem_of_getElem? (i := 901) (by decide +kernel), List.mem_of_getElem? (i := 902) (by decide +kernel)⟩
theorem lw_p19 : lw_okq (⟨"StarTales$Matcher", "search", "(III)I"⟩, 7) := ⟨⟨by decide +kernel, by decide +kernel⟩, List.mem_of_getElem? (i := 296) (by decide +kernel), List.mem_of_getElem? (i := 905) (by decide +kernel), List.mem_of_getElem? (i := 906) (by decide +kernel)⟩
theorem lw_p20 : lw_okq (⟨"StarTales$Matcher", "tightest", "(II)I"⟩, 7) := ⟨⟨by decide +kernel, by decide +kernel⟩, List.mem_of_getElem? (i := 296) (by decide +kernel), List.mem_of_getElem? (i := 909) (by decide +kernel), List.mem_of_getElem? (i := 910) (by decide +kernel)⟩
theorem lw_p21 : lw_okq (⟨"StarTales$Matcher", "narrow", "(IIII)Z"⟩, 7) := ⟨⟨by decide +kernel, by decide +kernel⟩, List.mem_of_getElem? (i := 296) (by decide +kernel), List.mem_of_getElem? (i := 913) (by decide +kernel), List.mem_of_getElem? (i := 914) (by decide +kernel)⟩
theorem lw_p22 : lw_okq (⟨"StarTales$Matcher", "agree", "(II)Z"⟩, 7) := ⟨⟨by decide +kernel, by decide +kernel⟩, List.mem_of_getElem? (i := 296) (by decide +kernel), List.mem_of_getElem? (i := 917) (by decide +kernel), List.mem_of_getElem? (i := 918) (by decide +kernel)⟩
theorem lw_p23 : lw_okq (⟨"StarTales$Matcher", "besides", "(I)I"⟩, 7) := ⟨⟨by decide +kernel, by decide +kernel⟩, List.mem_of_getElem? (i := 296) (by decide +kernel), List.mem_of_getElem? (i := 921) (by decide +kernel), List.mem_of_getElem? (i := 922) (by decide +kernel)⟩
theorem lw_p24 : lw_okq (⟨"StarTales$Matcher", "settleLowest", "(I)Z"⟩, 7) := ⟨⟨by decide +kernel, by decide +kernel⟩, List.mem_of_getElem? (i := 296) (by decide +kernel), List.mem_of_getElem? (i := 930) (by decide +kernel), List.mem_of_getElem? (i := 931) (by decide +kernel)⟩
theorem lw_p25 : lw_okq (⟨"StarTales", "canBeTold", "(I)Z"⟩, 19) := ⟨⟨by decide +kernel, by decide +kernel⟩, List.mem_of_getElem? (i := 24) (by decide +kernel), List.mem_of_getElem? (i := 938) (by decide +kernel), List.mem_of_getElem? (i := 939) (by decide +kernel)⟩
theorem lw_p26 : lw_okq (⟨"StarTales$Patches", "fillParts", "(II[I)I"⟩, 7) := ⟨⟨by decide +kernel, by decide +kernel⟩, List.mem_of_getElem? (i := 381) (by decide +kernel), List.mem_of_getElem? (i := 966) (by decide +kernel), List.mem_of_getElem? (i := 967) (by decide +kernel)⟩
theorem lw_p27 : lw_okq (⟨"StarTales$Patches", "isSame", "(II)Z"⟩, 7) := ⟨⟨by decide +kernel, by decide +kernel⟩, List.mem_of_getElem? (i := 381) (by decide +kernel), List.mem_of_getElem? (i := 986) (by decide +kernel), List.mem_of_getElem? (i := 987) (by decide +kernel)⟩
theorem lw_p28 : lw_okq (⟨"StarTales$Chooser", "pairsApart", "(II)I"⟩, 7) := ⟨⟨by decide +kernel, by decide +kernel⟩, List.mem_of_getElem? (i := 410) (by decide +kernel), List.mem_of_getElem? (i := 1026) (by decide +kernel), List.mem_of_getElem? (i := 1027) (by decide +kernel)⟩
theorem lw_p29 : lw_okq (⟨"StarTales$Chooser", "leastCover", "(III)I"⟩, 7) := ⟨⟨by decide +kernel, by decide +kernel⟩, List.mem_of_getElem? (i := 410) (by decide +kernel), List.mem_of_getElem? (i := 1031) (by decide +kernel), List.mem_of_getElem? (i := 1032) (by decide +kernel)⟩
theorem lw_p30 : lw_okq (⟨"StarTales$Chooser", "offer", "(II)V"⟩, 7) := ⟨⟨by decide +kernel, by decide +kernel⟩, List.mem_of_getElem? (i := 410) (by decide +kernel), List.mem_of_getElem? (i := 1057) (by decide +kernel), List.mem_of_getElem? (i := 1058) (by decide +kernel)⟩
theorem lw_p31 : lw_okq (⟨"StarTales$Pilot", "spread", "(LStarTales$Sea;I[I)V"⟩, 15) := ⟨⟨by decide +kernel, by decide +kernel⟩, List.mem_of_getElem? (i := 325) (by decide +kernel), List.mem_of_getElem? (i := 1138) (by decide +kernel), List.mem_of_getElem? (i := 1139) (by decide +kernel)⟩
def lw_privs_2 : List (MethodName × Nat) := [(⟨"StarTales$View", "isDrawn", "(II)Z"⟩, 10), (⟨"StarTales$Matcher", "begin", "(LStarTales$Tale;I[I)V"⟩, 7), (⟨"StarTales$Matcher", "withLegs", "(II)I"⟩, 7), (⟨"StarTales$Matcher", "search", "(III)I"⟩, 7), (⟨"StarTales$Matcher", "tightest", "(II)I"⟩, 7), (⟨"StarTales$Matcher", "narrow", "(IIII)Z"⟩, 7), (⟨"StarTales$Matcher", "agree", "(II)Z"⟩, 7), (⟨"StarTales$Matcher", "besides", "(I)I"⟩, 7), (⟨"StarTales$Matcher", "settleLowest", "(I)Z"⟩, 7), (⟨"StarTales", "canBeTold", "(I)Z"⟩, 19), (⟨"StarTales$Patches", "fillParts", "(II[I)I"⟩, 7), (⟨"StarTales$Patches", "isSame", "(II)Z"⟩, 7), (⟨"StarTales$Chooser", "pairsApart", "(II)I"⟩, 7), (⟨"StarTales$Chooser", "leastCover", "(III)I"⟩, 7), (⟨"StarTales$Chooser", "offer", "(II)V"⟩, 7), (⟨"StarTales$Pilot", "spread", "(LStarTales$Sea;I[I)V"⟩, 15)]
theorem lw_r2 : ∀ q ∈ lw_privs_2, lw_okq q := List.forall_mem_cons.mpr ⟨lw_p16, List.forall_mem_cons.mpr ⟨lw_p17, List.forall_mem_cons.mpr ⟨lw_p18, List.forall_mem_cons.mpr ⟨lw_p19, List.forall_mem_cons.mpr ⟨lw_p20, List.forall_mem_cons.mpr ⟨lw_p21, List.forall_mem_cons.mpr ⟨lw_p22, List.forall_mem_cons.mpr ⟨lw_p23, List.forall_mem_cons.mpr ⟨lw_p24, List.forall_mem_cons.mpr ⟨lw_p25, List.forall_mem_cons.mpr ⟨lw_p26, List.forall_mem_cons.mpr ⟨lw_p27, List.forall_mem_cons.mpr ⟨lw_p28, List.forall_mem_cons.mpr ⟨lw_p29, List.forall_mem_cons.mpr ⟨lw_p30, List.forall_mem_cons.mpr ⟨lw_p31, fun _ h => absurd h List.not_mem_nil⟩⟩⟩⟩⟩⟩⟩⟩⟩⟩⟩⟩⟩⟩⟩⟩
theorem lw_p32 : lw_okq (⟨"StarTales", "canAskVoyage", "(III)Z"⟩, 19) := ⟨⟨by decide +kernel, by decide +kernel⟩, List.mem_of_getElem? (i := 24) (by decide +kernel), List.mem_of_getElem? (i := 1153) (by decide +kernel), List.mem_of_getElem? (i := 1154) (by decide +kernel)⟩
theorem lw_p33 : lw_okq (⟨"StarTales$Pilot", "stepFirstLegs", "(LStarTales$View;LStarTales$Sea;)V"⟩, 15) := ⟨⟨by decide +kernel, by decide +kernel⟩, List.mem_of_getElem? (i := 325) (by decide +kernel), List.mem_of_getElem? (i := 1162) (by decide +kernel), List.mem_of_getElem? (i := 1163) (by decide +kernel)⟩
theorem lw_p34 : lw_okq (⟨"StarTales$Pilot", "turnOnward", "(LStarTales$View;)V"⟩, 15) := ⟨⟨by decide +kernel, by decide +kernel⟩, List.mem_of_getElem? (i := 325) (by decide +kernel), List.mem_of_getElem? (i := 1168) (by decide +kernel), List.mem_of_getElem? (i := 1169) (by decide +kernel)⟩
theorem lw_p35 : lw_okq (⟨"StarTales$Pilot", "endFirstLegs", "(LStarTales$Sky;I)V"⟩, 15) := ⟨⟨by decide +kernel, by decide +kernel⟩, List.mem_of_getElem? (i := 325) (by decide +kernel), List.mem_of_getElem? (i := 1182) (by decide +kernel), List.mem_of_getElem? (i := 1183) (by decide +kernel)⟩
theorem lw_p36 : lw_okq (⟨"StarTales$Pilot", "isBroughtByLower", "(LStarTales$Sky;I)Z"⟩, 15) := ⟨⟨by decide +kernel, by decide +kernel⟩, List.mem_of_getElem? (i := 325) (by decide +kernel), List.mem_of_getElem? (i := 1186) (by decide +kernel), List.mem_of_getElem? (i := 1187) (by decide +kernel)⟩
theorem lw_p37 : lw_okq (⟨"StarTales$Pilot", "followSecond", "(LStarTales$View;LStarTales$Sea;III)V"⟩, 15) := ⟨⟨by decide +kernel, by decide +kernel⟩, List.mem_of_getElem? (i := 325) (by decide +kernel), List.mem_of_getElem? (i := 1191) (by decide +kernel), List.mem_of_getElem? (i := 1192) (by decide +kernel)⟩
theorem lw_p38 : lw_okq (⟨"StarTales$Matcher", "hide", "(LStarTales$Tale;LStarTales$View;II)V"⟩, 7) := ⟨⟨by decide +kernel, by decide +kernel⟩, List.mem_of_getElem? (i := 296) (by decide +kernel), List.mem_of_getElem? (i := 1211) (by decide +kernel), List.mem_of_getElem? (i := 1212) (by decide +kernel)⟩
theorem lw_p39 : lw_okq (⟨"StarTales$Matcher", "columnsOfWay", "(LStarTales$Tale;LStarTales$Sky;)I"⟩, 7) := ⟨⟨by decide +kernel, by decide +kernel⟩, List.mem_of_getElem? (i := 296) (by decide +kernel), List.mem_of_getElem? (i := 1220) (by decide +kernel), List.mem_of_getElem? (i := 1221) (by decide +kernel)⟩
theorem lw_p40 : lw_okq (⟨"StarTales", "isLogBytes", "(I)Z"⟩, 19) := ⟨⟨by decide +kernel, by decide +kernel⟩, List.mem_of_getElem? (i := 24) (by decide +kernel), List.mem_of_getElem? (i := 1228) (by decide +kernel), List.mem_of_getElem? (i := 1229) (by decide +kernel)⟩
theorem lw_p41 : lw_okq (⟨"StarTales", "moveSpots", "(I)V"⟩, 19) := ⟨⟨by decide +kernel, by decide +kernel⟩, List.mem_of_getElem? (i := 24) (by decide +kernel), List.mem_of_getElem? (i := 1232) (by decide +kernel), List.mem_of_getElem? (i := 1233) (by decide +kernel)⟩
theorem lw_p42 : lw_okq (⟨"StarTales", "countSpots", "()I"⟩, 19) := ⟨⟨by decide +kernel, by decide +kernel⟩, List.mem_of_getElem? (i := 24) (by decide +kernel), List.mem_of_getElem? (i := 1237) (by decide +kernel), List.mem_of_getElem? (i := 1238) (by decide +kernel)⟩
theorem lw_p43 : lw_okq (⟨"StarTales", "firstSpot", "()I"⟩, 19) := ⟨⟨by decide +kernel, by decide +kernel⟩, List.mem_of_getElem? (i := 24) (by decide +kernel), List.mem_of_getElem? (i := 1241) (by decide +kernel), List.mem_of_getElem? (i := 1242) (by decide +kernel)⟩
theorem lw_p44 : lw_okq (⟨"StarTalesModel", "isTold", "(I)Z"⟩, 64) := ⟨⟨by decide +kernel, by decide +kernel⟩, List.mem_of_getElem? (i := 1295) (by decide +kernel), List.mem_of_getElem? (i := 1508) (by decide +kernel), List.mem_of_getElem? (i := 1509) (by decide +kernel)⟩
theorem lw_p45 : lw_okq (⟨"StarTalesModel", "isShip", "(I)Z"⟩, 64) := ⟨⟨by decide +kernel, by decide +kernel⟩, List.mem_of_getElem? (i := 1295) (by decide +kernel), List.mem_of_getElem? (i := 1536) (by decide +kernel), List.mem_of_getElem? (i := 1537) (by decide +kernel)⟩
theorem lw_p46 : lw_okq (⟨"StarTalesModel", "isLand", "(I)Z"⟩, 64) := ⟨⟨by decide +kernel, by decide +kernel⟩, List.mem_of_getElem? (i := 1295) (by decide +kernel), List.mem_of_getElem? (i := 1544) (by decide +kernel), List.mem_of_getElem? (i := 1545) (by decide +kernel)⟩
theorem lw_p47 : lw_okq (⟨"StarTalesModel", "types", "(I)V"⟩, 64) := ⟨⟨by decide +kernel, by decide +kernel⟩, List.mem_of_getElem? (i := 1295) (by decide +kernel), List.mem_of_getElem? (i := 1552) (by decide +kernel), List.mem_of_getElem? (i := 1553) (by decide +kernel)⟩
def lw_privs_3 : List (MethodName × Nat) := [(⟨"StarTales", "canAskVoyage", "(III)Z"⟩, 19), (⟨"StarTales$Pilot", "stepFirstLegs", "(LStarTales$View;LStarTales$Sea;)V"⟩, 15), (⟨"StarTales$Pilot", "turnOnward", "(LStarTales$View;)V"⟩, 15), (⟨"StarTales$Pilot", "endFirstLegs", "(LStarTales$Sky;I)V"⟩, 15), (⟨"StarTales$Pilot", "isBroughtByLower", "(LStarTales$Sky;I)Z"⟩, 15), (⟨"StarTales$Pilot", "followSecond", "(LStarTales$View;LStarTales$Sea;III)V"⟩, 15), (⟨"StarTales$Matcher", "hide", "(LStarTales$Tale;LStarTales$View;II)V"⟩, 7), (⟨"StarTales$Matcher", "columnsOfWay", "(LStarTales$Tale;LStarTales$Sky;)I"⟩, 7), (⟨"StarTales", "isLogBytes", "(I)Z"⟩, 19), (⟨"StarTales", "moveSpots", "(I)V"⟩, 19), (⟨"StarTales", "countSpots", "()I"⟩, 19), (⟨"StarTales", "firstSpot", "()I"⟩, 19), (⟨"StarTalesModel", "isTold", "(I)Z"⟩, 64), (⟨"StarTalesModel", "isShip", "(I)Z"⟩, 64), (⟨"StarTalesModel", "isLand", "(I)Z"⟩, 64), (⟨"StarTalesModel", "types", "(I)V"⟩, 64)]
theorem lw_r3 : ∀ q ∈ lw_privs_3, lw_okq q := List.forall_mem_cons.mpr ⟨lw_p32, List.forall_mem_cons.mpr ⟨lw_p33, List.forall_mem_cons.mpr ⟨lw_p34, List.forall_mem_cons.mpr ⟨lw_p35, List.forall_mem_cons.mpr ⟨lw_p36, List.forall_mem_cons.mpr ⟨lw_p37, List.forall_mem_cons.mpr ⟨lw_p38, List.forall_mem_cons.mpr ⟨lw_p39, List.forall_mem_cons.mpr ⟨lw_p40, List.forall_mem_cons.mpr ⟨lw_p41, List.forall_mem_cons.mpr ⟨lw_p42, List.forall_mem_cons.mpr ⟨lw_p43, List.forall_mem_cons.mpr ⟨lw_p44, List.forall_mem_cons.mpr ⟨lw_p45, List.forall_mem_cons.mpr ⟨lw_p46, List.forall_mem_cons.mpr ⟨lw_p47, fun _ h => absurd h List.not_mem_nil⟩⟩⟩⟩⟩⟩⟩⟩⟩⟩⟩⟩⟩⟩⟩⟩
theorem lw_p48 : lw_okq (⟨"StarTalesModel", "readsClause", "()Z"⟩, 64) := ⟨⟨by decide +kernel, by decide +kernel⟩, List.mem_of_getElem? (i := 1295) (by decide +kernel), List.mem_of_getElem? (i := 1560) (by decide +kernel), List.mem_of_getElem? (i := 1561) (by decide +kernel)⟩
theorem lw_p49 : lw_okq (⟨"StarTalesModel", "here", "()I"⟩, 64) := ⟨⟨by decide +kernel, by decide +kernel⟩, List.mem_of_getElem? (i := 1295) (by decide +kernel), List.mem_of_getElem? (i := 1564) (by decide +kernel), List.mem_of_getElem? (i := 1565) (by decide +kernel)⟩
theorem lw_p50 : lw_okq (⟨"StarTalesModel", "wrongAt", "(II)Z"⟩, 64) := ⟨⟨by decide +kernel, by decide +kernel⟩, List.mem_of_getElem? (i := 1295) (by decide +kernel), List.mem_of_getElem? (i := 1571) (by decide +kernel), List.mem_of_getElem? (i := 1572) (by decide +kernel)⟩
theorem lw_p51 : lw_okq (⟨"StarTalesModel", "readsSum", "()Z"⟩, 64) := ⟨⟨by decide +kernel, by decide +kernel⟩, List.mem_of_getElem? (i := 1295) (by decide +kernel), List.mem_of_getElem? (i := 1575) (by decide +kernel), List.mem_of_getElem? (i := 1576) (by decide +kernel)⟩
theorem lw_p52 : lw_okq (⟨"StarTalesModel", "readsFactor", "()Z"⟩, 64) := ⟨⟨by decide +kernel, by decide +kernel⟩, List.mem_of_getElem? (i := 1295) (by decide +kernel), List.mem_of_getElem? (i := 1579) (by decide +kernel), List.mem_of_getElem? (i := 1580) (by decide +kernel)⟩
theorem lw_p53 : lw_okq (⟨"StarTalesModel", "opens", "(I)Z"⟩, 64) := ⟨⟨by decide +kernel, by decide +kernel⟩, List.mem_of_getElem? (i := 1295) (by decide +kernel), List.mem_of_getElem? (i := 1583) (by decide +kernel), List.mem_of_getElem? (i := 1584) (by decide +kernel)⟩
theorem lw_p54 : lw_okq (⟨"StarTalesModel", "isDigit", "()Z"⟩, 64) := ⟨⟨by decide +kernel, by decide +kernel⟩, List.mem_of_getElem? (i := 1295) (by decide +kernel), List.mem_of_getElem? (i := 1588) (by decide +kernel), List.mem_of_getElem? (i := 1589) (by decide +kernel)⟩
theorem lw_p55 : lw_okq (⟨"StarTalesModel", "readsNumber", "()Z"⟩, 64) := ⟨⟨by decide +kernel, by decide +kernel⟩, List.mem_of_getElem? (i := 1295) (by decide +kernel), List.mem_of_getElem? (i := 1592) (by decide +kernel), List.mem_of_getElem? (i := 1593) (by decide +kernel)⟩
theorem lw_p56 : lw_okq (⟨"StarTalesModel", "notes", "(II)V"⟩, 64) := ⟨⟨by decide +kernel, by decide +kernel⟩, List.mem_of_getElem? (i := 1295) (by decide +kernel), List.mem_of_getElem? (i := 1596) (by decide +kernel), List.mem_of_getElem? (i := 1597) (by decide +kernel)⟩
theorem lw_p57 : lw_okq (⟨"StarTalesModel", "closesSums", "(Z)V"⟩, 64) := ⟨⟨by decide +kernel, by decide +kernel⟩, List.mem_of_getElem? (i := 1295) (by decide +kernel), List.mem_of_getElem? (i := 1606) (by decide +kernel), List.mem_of_getElem? (i := 1607) (by decide +kernel)⟩
theorem lw_p58 : lw_okq (⟨"StarTalesModel", "waitTop", "()I"⟩, 64) := ⟨⟨by decide +kernel, by decide +kernel⟩, List.mem_of_getElem? (i := 1295) (by decide +kernel), List.mem_of_getElem? (i := 1610) (by decide +kernel), List.mem_of_getElem? (i := 1611) (by decide +kernel)⟩
theorem lw_p59 : lw_okq (⟨"StarTalesModel", "hasOpenSum", "(I)Z"⟩, 64) := ⟨⟨by decide +kernel, by decide +kernel⟩, List.mem_of_getElem? (i := 1295) (by decide +kernel), List.mem_of_getElem? (i := 1614) (by decide +kernel), List.mem_of_getElem? (i := 1615) (by decide +kernel)⟩
theorem lw_p60 : lw_okq (⟨"StarTalesModel", "readsCondition", "()Z"⟩, 64) := ⟨⟨by decide +kernel, by decide +kernel⟩, List.mem_of_getElem? (i := 1295) (by decide +kernel), List.mem_of_getElem? (i := 1618) (by decide +kernel), List.mem_of_getElem? (i := 1619) (by decide +kernel)⟩
theorem lw_p61 : lw_okq (⟨"StarTalesModel", "readsCompared", "()Z"⟩, 64) := ⟨⟨by decide +kernel, by decide +kernel⟩, List.mem_of_getElem? (i := 1295) (by decide +kernel), List.mem_of_getElem? (i := 1622) (by decide +kernel), List.mem_of_getElem? (i := 1623) (by decide +kernel)⟩
theorem lw_p62 : lw_okq (⟨"StarTalesModel", "endsPiece", "()V"⟩, 64) := ⟨⟨by decide +kernel, by decide +kernel⟩, List.mem_of_getElem? (i := 1295) (by decide +kernel), List.mem_of_getElem? (i := 1626) (by decide +kernel), List.mem_of_getElem? (i := 1627) (by decide +kernel)⟩
theorem lw_p63 : lw_okq (⟨"StarTalesModel", "lands", "(Z)V"⟩, 64) := ⟨⟨by decide +kernel, by decide +kernel⟩, List.mem_of_getElem? (i := 1295) (by decide +kernel), List.mem_of_getElem? (i := 1630) (by decide +kernel), List.mem_of_getElem? (i := 1631) (by decide +kernel)⟩
def lw_privs_4 : List (MethodName × Nat) := [(⟨"StarTalesModel", "readsClause", "()Z"⟩, 64), (⟨"StarTalesModel", "here", "()I"⟩, 64), (⟨"StarTalesModel", "wrongAt", "(II)Z"⟩, 64), (⟨"StarTalesModel", "readsSum", "()Z"⟩, 64), (⟨"StarTalesModel", "readsFactor", "()Z"⟩, 64), (⟨"StarTalesModel", "opens", "(I)Z"⟩, 64), (⟨"StarTalesModel", "isDigit", "()Z"⟩, 64), (⟨"StarTalesModel", "readsNumber", "()Z"⟩, 64), (⟨"StarTalesModel", "notes", "(II)V"⟩, 64), (⟨"StarTalesModel", "closesSums", "(Z)V"⟩, 64), (⟨"StarTalesModel", "waitTop", "()I"⟩, 64), (⟨"StarTalesModel", "hasOpenSum", "(I)Z"⟩, 64), (⟨"StarTalesModel", "readsCondition", "()Z"⟩, 64), (⟨"StarTalesModel", "readsCompared", "()Z"⟩, 64), (⟨"StarTalesModel", "endsPiece", "()V"⟩, 64), (⟨"StarTalesModel", "lands", "(Z)V"⟩, 64)]
theorem lw_r4 : ∀ q ∈ lw_privs_4, lw_okq q := List.forall_mem_cons.mpr ⟨lw_p48, List.forall_mem_cons.mpr ⟨lw_p49, List.forall_mem_cons.mpr ⟨lw_p50, List.forall_mem_cons.mpr ⟨lw_p51, List.forall_mem_cons.mpr ⟨lw_p52, List.forall_mem_cons.mpr ⟨lw_p53, List.forall_mem_cons.mpr ⟨lw_p54, List.forall_mem_cons.mpr ⟨lw_p55, List.forall_mem_cons.mpr ⟨lw_p56, List.forall_mem_cons.mpr ⟨lw_p57, List.forall_mem_cons.mpr ⟨lw_p58, List.forall_mem_cons.mpr ⟨lw_p59, List.forall_mem_cons.mpr ⟨lw_p60, List.forall_mem_cons.mpr ⟨lw_p61, List.forall_mem_cons.mpr ⟨lw_p62, List.forall_mem_cons.mpr ⟨lw_p63, fun _ h => absurd h List.not_mem_nil⟩⟩⟩⟩⟩⟩⟩⟩⟩⟩⟩⟩⟩⟩⟩⟩
theorem lw_p64 : lw_okq (⟨"StarTalesModel", "jumps", "(I)V"⟩, 64) := ⟨⟨by decide +kernel, by decide +kernel⟩, List.mem_of_getElem? (i := 1295) (by decide +kernel), List.mem_of_getElem? (i := 1634) (by decide +kernel), List.mem_of_getElem? (i := 1635) (by decide +kernel)⟩
theorem lw_p65 : lw_okq (⟨"StarTalesModel", "takes", "(I)Z"⟩, 64) := ⟨⟨by decide +kernel, by decide +kernel⟩, List.mem_of_getElem? (i := 1295) (by decide +kernel), List.mem_of_getElem? (i := 1638) (by decide +kernel), List.mem_of_getElem? (i := 1639) (by decide +kernel)⟩
theorem lw_p66 : lw_okq (⟨"StarTalesModel", "standsAt", "(I)I"⟩, 64) := ⟨⟨by decide +kernel, by decide +kernel⟩, List.mem_of_getElem? (i := 1295) (by decide +kernel), List.mem_of_getElem? (i := 1646) (by decide +kernel), List.mem_of_getElem? (i := 1647) (by decide +kernel)⟩
theorem lw_p67 : lw_okq (⟨"StarTalesModel", "seenFrom", "(I)I"⟩, 64) := ⟨⟨by decide +kernel, by decide +kernel⟩, List.mem_of_getElem? (i := 1295) (by decide +kernel), List.mem_of_getElem? (i := 1654) (by decide +kernel), List.mem_of_getElem? (i := 1655) (by decide +kernel)⟩
theorem lw_p68 : lw_okq (⟨"StarTalesModel", "isSeen", "(II)Z"⟩, 64) := ⟨⟨by decide +kernel, by decide +kernel⟩, List.mem_of_getElem? (i := 1295) (by decide +kernel), List.mem_of_getElem? (i := 1658) (by decide +kernel), List.mem_of_getElem? (i := 1659) (by decide +kernel)⟩
theorem lw_p69 : lw_okq (⟨"StarTalesModel", "hasClause", "(I)Z"⟩, 64) := ⟨⟨by decide +kernel, by decide +kernel⟩, List.mem_of_getElem? (i := 1295) (by decide +kernel), List.mem_of_getElem? (i := 1668) (by decide +kernel), List.mem_of_getElem? (i := 1669) (by decide +kernel)⟩
theorem lw_p70 : lw_okq (⟨"StarTalesModel", "feelsStar", "(I)V"⟩, 64) := ⟨⟨by decide +kernel, by decide +kernel⟩, List.mem_of_getElem? (i := 1295) (by decide +kernel), List.mem_of_getElem? (i := 1672) (by decide +kernel), List.mem_of_getElem? (i := 1673) (by decide +kernel)⟩
theorem lw_p71 : lw_okq (⟨"StarTalesModel", "feels", "()V"⟩, 64) := ⟨⟨by decide +kernel, by decide +kernel⟩, List.mem_of_getElem? (i := 1295) (by decide +kernel), List.mem_of_getElem? (i := 1676) (by decide +kernel), List.mem_of_getElem? (i := 1677) (by decide +kernel)⟩
theorem lw_p72 : lw_okq (⟨"StarTalesModel", "anyOf", "(I)Z"⟩, 64) := ⟨⟨by decide +kernel, by decide +kernel⟩, List.mem_of_getElem? (i := 1295) (by decide +kernel), List.mem_of_getElem? (i := 1683) (by decide +kernel), List.mem_of_getElem? (i := 1684) (by decide +kernel)⟩
theorem lw_p73 : lw_okq (⟨"StarTalesModel", "comesTo", "(II)I"⟩, 64) := ⟨⟨by decide +kernel, by decide +kernel⟩, List.mem_of_getElem? (i := 1295) (by decide +kernel), List.mem_of_getElem? (i := 1687) (by decide +kernel), List.mem_of_getElem? (i := 1688) (by decide +kernel)⟩
theorem lw_p74 : lw_okq (⟨"StarTalesModel", "looks", "(I)V"⟩, 64) := ⟨⟨by decide +kernel, by decide +kernel⟩, List.mem_of_getElem? (i := 1295) (by decide +kernel), List.mem_of_getElem? (i := 1698) (by decide +kernel), List.mem_of_getElem? (i := 1699) (by decide +kernel)⟩
theorem lw_p75 : lw_okq (⟨"StarTalesModel", "isDrawn", "(III)Z"⟩, 64) := ⟨⟨by decide +kernel, by decide +kernel⟩, List.mem_of_getElem? (i := 1295) (by decide +kernel), List.mem_of_getElem? (i := 1702) (by decide +kernel), List.mem_of_getElem? (i := 1703) (by decide +kernel)⟩
theorem lw_p76 : lw_okq (⟨"StarTalesModel", "laysFigures", "()V"⟩, 64) := ⟨⟨by decide +kernel, by decide +kernel⟩, List.mem_of_getElem? (i := 1295) (by decide +kernel), List.mem_of_getElem? (i := 1710) (by decide +kernel), List.mem_of_getElem? (i := 1711) (by decide +kernel)⟩
theorem lw_p77 : lw_okq (⟨"StarTalesModel", "figureOf", "(I)I"⟩, 64) := ⟨⟨by decide +kernel, by decide +kernel⟩, List.mem_of_getElem? (i := 1295) (by decide +kernel), List.mem_of_getElem? (i := 1714) (by decide +kernel), List.mem_of_getElem? (i := 1715) (by decide +kernel)⟩
theorem lw_p78 : lw_okq (⟨"StarTalesModel", "mostLegs", "()I"⟩, 64) := ⟨⟨by decide +kernel, by decide +kernel⟩, List.mem_of_getElem? (i := 1295) (by decide +kernel), List.mem_of_getElem? (i := 1724) (by decide +kernel), List.mem_of_getElem? (i := 1725) (by decide +kernel)⟩
theorem lw_p79 : lw_okq (⟨"StarTalesModel", "lineMany", "()I"⟩, 64) := ⟨⟨by decide +kernel, by decide +kernel⟩, List.mem_of_getElem? (i := 1295) (by decide +kernel), List.mem_of_getElem? (i := 1728) (by decide +kernel), List.mem_of_getElem? (i := 1729) (by decide +kernel)⟩
def lw_privs_5 : List (MethodName × Nat) := [(⟨"StarTalesModel", "jumps", "(I)V"⟩, 64), (⟨"StarTalesModel", "takes", "(I)Z"⟩, 64), (⟨"StarTalesModel", "standsAt", "(I)I"⟩, 64), (⟨"StarTalesModel", "seenFrom", "(I)I"⟩, 64), (⟨"StarTalesModel", "isSeen", "(II)Z"⟩, 64), (⟨"StarTalesModel", "hasClause", "(I)Z"⟩, 64), (⟨"StarTalesModel", "feelsStar", "(I)V"⟩, 64), (⟨"StarTalesModel", "feels", "()V"⟩, 64), (⟨"StarTalesModel", "anyOf", "(I)Z"⟩, 64), (⟨"StarTalesModel", "comesTo", "(II)I"⟩, 64), (⟨"StarTalesModel", "looks", "(I)V"⟩, 64), (⟨"StarTalesModel", "isDrawn", "(III)Z"⟩, 64), (⟨"StarTalesModel", "laysFigures", "()V"⟩, 64), (⟨"StarTalesModel", "figureOf", "(I)I"⟩, 64), (⟨"StarTalesModel", "mostLegs", "()I"⟩, 64), (⟨"StarTalesModel", "lineMany", "()I"⟩, 64)]
theorem lw_r5 : ∀ q ∈ lw_privs_5, lw_okq q := List.forall_mem_cons.mpr ⟨lw_p64, List.forall_mem_cons.mpr ⟨lw_p65, List.forall_mem_cons.mpr ⟨lw_p66, List.forall_mem_cons.mpr ⟨lw_p67, List.forall_mem_cons.mpr ⟨lw_p68, List.forall_mem_cons.mpr ⟨lw_p69, List.forall_mem_cons.mpr ⟨lw_p70, List.forall_mem_cons.mpr ⟨lw_p71, List.forall_mem_cons.mpr ⟨lw_p72, List.forall_mem_cons.mpr ⟨lw_p73, List.forall_mem_cons.mpr ⟨lw_p74, List.forall_mem_cons.mpr ⟨lw_p75, List.forall_mem_cons.mpr ⟨lw_p76, List.forall_mem_cons.mpr ⟨lw_p77, List.forall_mem_cons.mpr ⟨lw_p78, List.forall_mem_cons.mpr ⟨lw_p79, fun _ h => absurd h List.not_mem_nil⟩⟩⟩⟩⟩⟩⟩⟩⟩⟩⟩⟩⟩⟩⟩⟩
theorem lw_p80 : lw_okq (⟨"StarTalesModel", "holding", "()I"⟩, 64) := ⟨⟨by decide +kernel, by decide +kernel⟩, List.mem_of_getElem? (i := 1295) (by decide +kernel), List.mem_of_getElem? (i := 1732) (by decide +kernel), List.mem_of_getElem? (i := 1733) (by decide +kernel)⟩
theorem lw_p81 : lw_okq (⟨"StarTalesModel", "readsTaleLine", "()Z"⟩, 64) := ⟨⟨by decide +kernel, by decide +kernel⟩, List.mem_of_getElem? (i := 1295) (by decide +kernel), List.mem_of_getElem? (i := 1744) (by decide +kernel), List.mem_of_getElem? (i := 1745) (by decide +kernel)⟩
theorem lw_p82 : lw_okq (⟨"StarTalesModel", "isName", "()Z"⟩, 64) := ⟨⟨by decide +kernel, by decide +kernel⟩, List.mem_of_getElem? (i := 1295) (by decide +kernel), List.mem_of_getElem? (i := 1748) (by decide +kernel), List.mem_of_getElem? (i := 1749) (by decide +kernel)⟩
theorem lw_p83 : lw_okq (⟨"StarTalesModel", "isTwice", "(II)Z"⟩, 64) := ⟨⟨by decide +kernel, by decide +kernel⟩, List.mem_of_getElem? (i := 1295) (by decide +kernel), List.mem_of_getElem? (i := 1752) (by decide +kernel), List.mem_of_getElem? (i := 1753) (by decide +kernel)⟩
theorem lw_p84 : lw_okq (⟨"StarTalesModel", "ways", "(I)I"⟩, 64) := ⟨⟨by decide +kernel, by decide +kernel⟩, List.mem_of_getElem? (i := 1295) (by decide +kernel), List.mem_of_getElem? (i := 1760) (by decide +kernel), List.mem_of_getElem? (i := 1761) (by decide +kernel)⟩
theorem lw_p85 : lw_okq (⟨"StarTalesModel", "laysNames", "()V"⟩, 64) := ⟨⟨by decide +kernel, by decide +kernel⟩, List.mem_of_getElem? (i := 1295) (by decide +kernel), List.mem_of_getElem? (i := 1764) (by decide +kernel), List.mem_of_getElem? (i := 1765) (by decide +kernel)⟩
theorem lw_p86 : lw_okq (⟨"StarTalesModel", "canBe", "(II)Z"⟩, 64) := ⟨⟨by decide +kernel, by decide +kernel⟩, List.mem_of_getElem? (i := 1295) (by decide +kernel), List.mem_of_getElem? (i := 1768) (by decide +kernel), List.mem_of_getElem? (i := 1769) (by decide +kernel)⟩
theorem lw_p87 : lw_okq (⟨"StarTalesModel", "canBeTold", "(I)Z"⟩, 64) := ⟨⟨by decide +kernel, by decide +kernel⟩, List.mem_of_getElem? (i := 1295) (by decide +kernel), List.mem_of_getElem? (i := 1776) (by decide +kernel), List.mem_of_getElem? (i := 1777) (by decide +kernel)⟩
theorem lw_p88 : lw_okq (⟨"StarTalesModel", "laysPatches", "()V"⟩, 64) := ⟨⟨by decide +kernel, by decide +kernel⟩, List.mem_of_getElem? (i := 1295) (by decide +kernel), List.mem_of_getElem? (i := 1788) (by decide +kernel), List.mem_of_getElem? (i := 1789) (by decide +kernel)⟩
theorem lw_p89 : lw_okq (⟨"StarTalesModel", "laysPatch", "(I)V"⟩, 64) := ⟨⟨by decide +kernel, by decide +kernel⟩, List.mem_of_getElem? (i := 1295) (by decide +kernel), List.mem_of_getElem? (i := 1792) (by decide +kernel), List.mem_of_getElem? (i := 1793) (by decide +kernel)⟩
theorem lw_p90 : lw_okq (⟨"StarTalesModel", "partOf", "(II)I"⟩, 64) := ⟨⟨by decide +kernel, by decide +kernel⟩, List.mem_of_getElem? (i := 1295) (by decide +kernel), List.mem_of_getElem? (i := 1796) (by decide +kernel), List.mem_of_getElem? (i := 1797) (by decide +kernel)⟩
theorem lw_p91 : lw_okq (⟨"StarTalesModel", "alikeFrom", "(II)I"⟩, 64) := ⟨⟨by decide +kernel, by decide +kernel⟩, List.mem_of_getElem? (i := 1295) (by decide +kernel), List.mem_of_getElem? (i := 1803) (by decide +kernel), List.mem_of_getElem? (i := 1804) (by decide +kernel)⟩
theorem lw_p92 : lw_okq (⟨"StarTalesModel", "areAlike", "(II)Z"⟩, 64) := ⟨⟨by decide +kernel, by decide +kernel⟩, List.mem_of_getElem? (i := 1295) (by decide +kernel), List.mem_of_getElem? (i := 1807) (by decide +kernel), List.mem_of_getElem? (i := 1808) (by decide +kernel)⟩
theorem lw_p93 : lw_okq (⟨"StarTalesModel", "hasParts", "(II)Z"⟩, 64) := ⟨⟨by decide +kernel, by decide +kernel⟩, List.mem_of_getElem? (i := 1295) (by decide +kernel), List.mem_of_getElem? (i := 1816) (by decide +kernel), List.mem_of_getElem? (i := 1817) (by decide +kernel)⟩
theorem lw_p94 : lw_okq (⟨"StarTalesModel", "takesPlaces", "(I)Z"⟩, 64) := ⟨⟨by decide +kernel, by decide +kernel⟩, List.mem_of_getElem? (i := 1295) (by decide +kernel), List.mem_of_getElem? (i := 1824) (by decide +kernel), List.mem_of_getElem? (i := 1825) (by decide +kernel)⟩
theorem lw_p95 : lw_okq (⟨"StarTalesModel", "leastOf", "(I)I"⟩, 64) := ⟨⟨by decide +kernel, by decide +kernel⟩, List.mem_of_getElem? (i := 1295) (by decide +kernel), List.mem_of_getElem? (i := 1828) (by decide +kernel), List.mem_of_getElem? (i := 1829) (by decide +kernel)⟩
def lw_privs_6 : List (MethodName × Nat) := [(⟨"StarTalesModel", "holding", "()I"⟩, 64), (⟨"StarTalesModel", "readsTaleLine", "()Z"⟩, 64), (⟨"StarTalesModel", "isName", "()Z"⟩, 64), (⟨"StarTalesModel", "isTwice", "(II)Z"⟩, 64), (⟨"StarTalesModel", "ways", "(I)I"⟩, 64), (⟨"StarTalesModel", "laysNames", "()V"⟩, 64), (⟨"StarTalesModel", "canBe", "(II)Z"⟩, 64), (⟨"StarTalesModel", "canBeTold", "(I)Z"⟩, 64), (⟨"StarTalesModel", "laysPatches", "()V"⟩, 64), (⟨"StarTalesModel", "laysPatch", "(I)V"⟩, 64), (⟨"StarTalesModel", "partOf", "(II)I"⟩, 64), (⟨"StarTalesModel", "alikeFrom", "(II)I"⟩, 64), (⟨"StarTalesModel", "areAlike", "(II)Z"⟩, 64), (⟨"StarTalesModel", "hasParts", "(II)Z"⟩, 64), (⟨"StarTalesModel", "takesPlaces", "(I)Z"⟩, 64), (⟨"StarTalesModel", "leastOf", "(I)I"⟩, 64)]
theorem lw_r6 : ∀ q ∈ lw_privs_6, lw_okq q := List.forall_mem_cons.mpr ⟨lw_p80, List.forall_mem_cons.mpr ⟨lw_p81, List.forall_mem_cons.mpr ⟨lw_p82, List.forall_mem_cons.mpr ⟨lw_p83, List.forall_mem_cons.mpr ⟨lw_p84, List.forall_mem_cons.mpr ⟨lw_p85, List.forall_mem_cons.mpr ⟨lw_p86, List.forall_mem_cons.mpr ⟨lw_p87, List.forall_mem_cons.mpr ⟨lw_p88, List.forall_mem_cons.mpr ⟨lw_p89, List.forall_mem_cons.mpr ⟨lw_p90, List.forall_mem_cons.mpr ⟨lw_p91, List.forall_mem_cons.mpr ⟨lw_p92, List.forall_mem_cons.mpr ⟨lw_p93, List.forall_mem_cons.mpr ⟨lw_p94, List.forall_mem_cons.mpr ⟨lw_p95, fun _ h => absurd h List.not_mem_nil⟩⟩⟩⟩⟩⟩⟩⟩⟩⟩⟩⟩⟩⟩⟩⟩
theorem lw_p96 : lw_okq (⟨"StarTalesModel", "tellsApart", "(I)Z"⟩, 64) := ⟨⟨by decide +kernel, by decide +kernel⟩, List.mem_of_getElem? (i := 1295) (by decide +kernel), List.mem_of_getElem? (i := 1833) (by decide +kernel), List.mem_of_getElem? (i := 1834) (by decide +kernel)⟩
theorem lw_p97 : lw_okq (⟨"StarTalesModel", "byLaw", "(II)I"⟩, 64) := ⟨⟨by decide +kernel, by decide +kernel⟩, List.mem_of_getElem? (i := 1295) (by decide +kernel), List.mem_of_getElem? (i := 1841) (by decide +kernel), List.mem_of_getElem? (i := 1842) (by decide +kernel)⟩
theorem lw_p98 : lw_okq (⟨"StarTalesModel", "steers", "(IIZ)V"⟩, 64) := ⟨⟨by decide +kernel, by decide +kernel⟩, List.mem_of_getElem? (i := 1295) (by decide +kernel), List.mem_of_getElem? (i := 1849) (by decide +kernel), List.mem_of_getElem? (i := 1850) (by decide +kernel)⟩
theorem lw_p99 : lw_okq (⟨"StarTalesModel", "drawsClouds", "()V"⟩, 64) := ⟨⟨by decide +kernel, by decide +kernel⟩, List.mem_of_getElem? (i := 1295) (by decide +kernel), List.mem_of_getElem? (i := 1853) (by decide +kernel), List.mem_of_getElem? (i := 1854) (by decide +kernel)⟩
theorem lw_p100 : lw_okq (⟨"StarTalesModel", "steersFrom", "(II)I"⟩, 64) := ⟨⟨by decide +kernel, by decide +kernel⟩, List.mem_of_getElem? (i := 1295) (by decide +kernel), List.mem_of_getElem? (i := 1858) (by decide +kernel), List.mem_of_getElem? (i := 1859) (by decide +kernel)⟩
theorem lw_p101 : lw_okq (⟨"StarTalesModel", "passes", "()V"⟩, 64) := ⟨⟨by decide +kernel, by decide +kernel⟩, List.mem_of_getElem? (i := 1295) (by decide +kernel), List.mem_of_getElem? (i := 1865) (by decide +kernel), List.mem_of_getElem? (i := 1866) (by decide +kernel)⟩
theorem lw_p102 : lw_okq (⟨"StarTalesModel", "walks", "()V"⟩, 64) := ⟨⟨by decide +kernel, by decide +kernel⟩, List.mem_of_getElem? (i := 1295) (by decide +kernel), List.mem_of_getElem? (i := 1869) (by decide +kernel), List.mem_of_getElem? (i := 1870) (by decide +kernel)⟩
theorem lw_p103 : lw_okq (⟨"StarTalesModel", "begins", "()V"⟩, 64) := ⟨⟨by decide +kernel, by decide +kernel⟩, List.mem_of_getElem? (i := 1295) (by decide +kernel), List.mem_of_getElem? (i := 1884) (by decide +kernel), List.mem_of_getElem? (i := 1885) (by decide +kernel)⟩
theorem lw_p104 : lw_okq (⟨"StarTalesModel", "again", "()V"⟩, 64) := ⟨⟨by decide +kernel, by decide +kernel⟩, List.mem_of_getElem? (i := 1295) (by decide +kernel), List.mem_of_getElem? (i := 1891) (by decide +kernel), List.mem_of_getElem? (i := 1892) (by decide +kernel)⟩
theorem lw_p105 : lw_okq (⟨"StarTalesModel", "sails", "(I[I)V"⟩, 64) := ⟨⟨by decide +kernel, by decide +kernel⟩, List.mem_of_getElem? (i := 1295) (by decide +kernel), List.mem_of_getElem? (i := 1899) (by decide +kernel), List.mem_of_getElem? (i := 1900) (by decide +kernel)⟩
theorem lw_p106 : lw_okq (⟨"StarTalesModel", "comesBy", "(IIII)I"⟩, 64) := ⟨⟨by decide +kernel, by decide +kernel⟩, List.mem_of_getElem? (i := 1295) (by decide +kernel), List.mem_of_getElem? (i := 1910) (by decide +kernel), List.mem_of_getElem? (i := 1911) (by decide +kernel)⟩
theorem lw_p107 : lw_okq (⟨"StarTalesModel", "laysTwo", "(III)Z"⟩, 64) := ⟨⟨by decide +kernel, by decide +kernel⟩, List.mem_of_getElem? (i := 1295) (by decide +kernel), List.mem_of_getElem? (i := 1918) (by decide +kernel), List.mem_of_getElem? (i := 1919) (by decide +kernel)⟩
theorem lw_p108 : lw_okq (⟨"StarTalesModel", "comesByTwo", "(IIIIII)Z"⟩, 64) := ⟨⟨by decide +kernel, by decide +kernel⟩, List.mem_of_getElem? (i := 1295) (by decide +kernel), List.mem_of_getElem? (i := 1922) (by decide +kernel), List.mem_of_getElem? (i := 1923) (by decide +kernel)⟩
theorem lw_p109 : lw_okq (⟨"StarTalesModel", "looksBoth", "(II)V"⟩, 64) := ⟨⟨by decide +kernel, by decide +kernel⟩, List.mem_of_getElem? (i := 1295) (by decide +kernel), List.mem_of_getElem? (i := 1930) (by decide +kernel), List.mem_of_getElem? (i := 1931) (by decide +kernel)⟩
theorem lw_p110 : lw_okq (⟨"StarTalesModel", "leastClouds", "(III)I"⟩, 64) := ⟨⟨by decide +kernel, by decide +kernel⟩, List.mem_of_getElem? (i := 1295) (by decide +kernel), List.mem_of_getElem? (i := 1938) (by decide +kernel), List.mem_of_getElem? (i := 1939) (by decide +kernel)⟩
theorem lw_p111 : lw_okq (⟨"StarTalesModel", "takesLog", "(I)Z"⟩, 64) := ⟨⟨by decide +kernel, by decide +kernel⟩, List.mem_of_getElem? (i := 1295) (by decide +kernel), List.mem_of_getElem? (i := 1946) (by decide +kernel), List.mem_of_getElem? (i := 1947) (by decide +kernel)⟩
def lw_privs_7 : List (MethodName × Nat) := [(⟨"StarTalesModel", "tellsApart", "(I)Z"⟩, 64), (⟨"StarTalesModel", "byLaw", "(II)I"⟩, 64), (⟨"StarTalesModel", "steers", "(IIZ)V"⟩, 64), (⟨"StarTalesModel", "drawsClouds", "()V"⟩, 64), (⟨"StarTalesModel", "steersFrom", "(II)I"⟩, 64), (⟨"StarTalesModel", "passes", "()V"⟩, 64), (⟨"StarTalesModel", "walks", "()V"⟩, 64), (⟨"StarTalesModel", "begins", "()V"⟩, 64), (⟨"StarTalesModel", "again", "()V"⟩, 64), (⟨"StarTalesModel", "sails", "(I[I)V"⟩, 64), (⟨"StarTalesModel", "comesBy", "(IIII)I"⟩, 64), (⟨"StarTalesModel", "laysTwo", "(III)Z"⟩, 64), (⟨"StarTalesModel", "comesByTwo", "(IIIIII)Z"⟩, 64), (⟨"StarTalesModel", "looksBoth", "(II)V"⟩, 64), (⟨"StarTalesModel", "leastClouds", "(III)I"⟩, 64), (⟨"StarTalesModel", "takesLog", "(I)Z"⟩, 64)]
theorem lw_r7 : ∀ q ∈ lw_privs_7, lw_okq q := List.forall_mem_cons.mpr ⟨lw_p96, List.forall_mem_cons.mpr ⟨lw_p97, List.forall_mem_cons.mpr ⟨lw_p98, List.forall_mem_cons.mpr ⟨lw_p99, List.forall_mem_cons.mpr ⟨lw_p100, List.forall_mem_cons.mpr ⟨lw_p101, List.forall_mem_cons.mpr ⟨lw_p102, List.forall_mem_cons.mpr ⟨lw_p103, List.forall_mem_cons.mpr ⟨lw_p104, List.forall_mem_cons.mpr ⟨lw_p105, List.forall_mem_cons.mpr ⟨lw_p106, List.forall_mem_cons.mpr ⟨lw_p107, List.forall_mem_cons.mpr ⟨lw_p108, List.forall_mem_cons.mpr ⟨lw_p109, List.forall_mem_cons.mpr ⟨lw_p110, List.forall_mem_cons.mpr ⟨lw_p111, fun _ h => absurd h List.not_mem_nil⟩⟩⟩⟩⟩⟩⟩⟩⟩⟩⟩⟩⟩⟩⟩⟩
theorem lw_p112 : lw_okq (⟨"StarTalesModel", "tapeNumber", "(I)I"⟩, 64) := ⟨⟨by decide +kernel, by decide +kernel⟩, List.mem_of_getElem? (i := 1295) (by decide +kernel), List.mem_of_getElem? (i := 1975) (by decide +kernel), List.mem_of_getElem? (i := 1976) (by decide +kernel)⟩
theorem lw_p113 : lw_okq (⟨"StarTalesModel", "landMany", "()I"⟩, 64) := ⟨⟨by decide +kernel, by decide +kernel⟩, List.mem_of_getElem? (i := 1295) (by decide +kernel), List.mem_of_getElem? (i := 1983) (by decide +kernel), List.mem_of_getElem? (i := 1984) (by decide +kernel)⟩
def lw_privs_8 : List (MethodName × Nat) := [(⟨"StarTalesModel", "tapeNumber", "(I)I"⟩, 64), (⟨"StarTalesModel", "landMany", "()I"⟩, 64)]
theorem lw_r8 : ∀ q ∈ lw_privs_8, lw_okq q := List.forall_mem_cons.mpr ⟨lw_p112, List.forall_mem_cons.mpr ⟨lw_p113, fun _ h => absurd h List.not_mem_nil⟩⟩
def lw_privs : List (MethodName × Nat) := lw_privs_1 ++ (lw_privs_2 ++ (lw_privs_3 ++ (lw_privs_4 ++ (lw_privs_5 ++ (lw_privs_6 ++ (lw_privs_7 ++ (lw_privs_8)))))))
def lw_tbl : List Cond := k2_sels lw_privs ++ tables_1
theorem lw_privs_ok : ∀ q ∈ lw_privs, lw_okq q := by
  show ∀ q ∈ lw_privs_1 ++ (lw_privs_2 ++ (lw_privs_3 ++ (lw_privs_4 ++ (lw_privs_5 ++ (lw_privs_6 ++ (lw_privs_7 ++ (lw_privs_8))))))), lw_okq q
  exact List.forall_mem_append.mpr ⟨lw_r1, List.forall_mem_append.mpr ⟨lw_r2, List.forall_mem_append.mpr ⟨lw_r3, List.forall_mem_append.mpr ⟨lw_r4, List.forall_mem_append.mpr ⟨lw_r5, List.forall_mem_append.mpr ⟨lw_r6, List.forall_mem_append.mpr ⟨lw_r7, lw_r8⟩⟩⟩⟩⟩⟩⟩
end
section
/-! The program's own tables: classes, fields, methods, types. -/
def z_F0 : List (String × String × String × Bool) := [("StarTales", "sky", "LStarTales$Sky;", true), ("StarTales", "keptSky", "LStarTales$Sky;", true), ("StarTales", "ahead", "LStarTales$Sky;", true), ("StarTales", "sea", "LStarTales$Sea;", true), ("StarTales", "keptSea", "LStarTales$Sea;", true), ("StarTales", "isKept", "Z", false), ("StarTales", "tape", "LStarTales$Tape;", true), ("StarTales", "ruling", "LStarTales$Law;", false), ("StarTales", "spareLaw", "LStarTales$Law;", false), ("StarTales", "lawReader", "LStarTales$LawReader;", true), ("StarTales", "telling", "LStarTales$Tale;", false), ("StarTales", "spareTale", "LStarTales$Tale;", false), ("StarTales", "view", "LStarTales$View;", true), ("StarTales", "otherView", "LStarTales$View;", true), ("StarTales", "matcher", "LStarTales$Matcher;", true), ("StarTales", "pilot", "LStarTales$Pilot;", true), ("StarTales", "patches", "LStarTales$Patches;", true), ("StarTales", "chooser", "LStarTales$Chooser;", true), ("StarTales", "spots", "[I", true)]
def z_F1 : List (String × String × String × Bool) := [("StarTales$Sky", "told", "I", false), ("StarTales$Sky", "column", "[I", true), ("StarTales$Sky", "row", "[I", true), ("StarTales$Sky", "bright", "[I", true), ("StarTales$Sky", "walkColumns", "[I", true), ("StarTales$Sky", "walkRows", "[I", true), ("StarTales$Sky", "hour", "I", false), ("StarTales$Sky", "night", "I", false), ("StarTales$Sky", "clouds", "I", false), ("StarTales$Sky", "sightColumns", "I", false), ("StarTales$Sky", "sightRows", "I", false), ("StarTales$Sky", "chance", "I", false)]
def z_F2 : List (String × String × String × Bool) := [("StarTales$Sea", "landRow", "[I", true), ("StarTales$Sea", "shipsTold", "I", false), ("StarTales$Sea", "shipPlace", "[I", true)]
def z_F3 : List (String × String × String × Bool) := [("StarTales$Tape", "bytes", "[I", true), ("StarTales$Tape", "size", "I", false)]
def z_F4 : List (String × String × String × Bool) := [("StarTales$Law", "kinds", "[I", true), ("StarTales$Law", "values", "[I", true), ("StarTales$Law", "steps", "I", false), ("StarTales$Law", "clauseKind", "[I", true), ("StarTales$Law", "amountFrom", "[I", true), ("StarTales$Law", "conditionFrom", "[I", true), ("StarTales$Law", "conditionEnd", "[I", true), ("StarTales$Law", "clauses", "I", false), ("StarTales$Law", "tellsSeen", "Z", false), ("StarTales$Law", "tellsLines", "Z", false), ("StarTales$Law", "seenByPlace", "Z", false), ("StarTales$Law", "linesByPlace", "Z", false), ("StarTales$Law", "letters", "[I", true), ("StarTales$Law", "stack", "[I", true), ("StarTales$Law", "answer", "I", false)]
def z_F5 : List (String × String × String × Bool) := [("StarTales$LawReader", "text", "[I", true), ("StarTales$LawReader", "length", "I", false), ("StarTales$LawReader", "at", "I", false), ("StarTales$LawReader", "fault", "I", false), ("StarTales$LawReader", "law", "LStarTales$Law;", false)]
def z_F6 : List (String × String × String × Bool) := [("StarTales$Tale", "lines", "I", false), ("StarTales$Tale", "names", "I", false), ("StarTales$Tale", "near", "[I", true)]
def z_F7 : List (String × String × String × Bool) := [("StarTales$View", "sky", "LStarTales$Sky;", false), ("StarTales$View", "law", "LStarTales$Law;", false), ("StarTales$View", "x", "I", false), ("StarTales$View", "y", "I", false), ("StarTales$View", "shown", "I", false), ("StarTales$View", "joined", "[I", true), ("StarTales$View", "starsAsked", "I", false), ("StarTales$View", "starsHold", "I", false), ("StarTales$View", "pairsAsked", "[I", true), ("StarTales$View", "pairsHold", "[I", true)]
def z_F8 : List (String × String × String × Bool) := [("StarTales$Matcher", "may", "[I", true), ("StarTales$Matcher", "twins", "[I", true), ("StarTales$Matcher", "starOf", "[I", true), ("StarTales$Matcher", "tale", "LStarTales$Tale;", false), ("StarTales$Matcher", "joined", "[I", false), ("StarTales$Matcher", "fewest", "I", false), ("StarTales$Matcher", "deadEnds", "I", false)]
def z_F9 : List (String × String × String × Bool) := [("StarTales$Pilot", "hoursTaken", "I", false), ("StarTales$Pilot", "firstStar", "I", false), ("StarTales$Pilot", "turn", "I", false), ("StarTales$Pilot", "secondStar", "I", false), ("StarTales$Pilot", "brought", "[I", true), ("StarTales$Pilot", "legStar", "[I", true), ("StarTales$Pilot", "legHours", "[I", true), ("StarTales$Pilot", "legEnd", "[I", true), ("StarTales$Pilot", "legNow", "[I", true), ("StarTales$Pilot", "legs", "I", false), ("StarTales$Pilot", "best", "I", false), ("StarTales$Pilot", "stepped", "[I", true), ("StarTales$Pilot", "hoursFromOne", "[I", true), ("StarTales$Pilot", "hoursFromOther", "[I", true), ("StarTales$Pilot", "queue", "[I", true)]
def z_F10 : List (String × String × String × Bool) := [("StarTales$Patches", "shownAt", "[I", true), ("StarTales$Patches", "markAt", "[J", true), ("StarTales$Patches", "told", "[I", true), ("StarTales$Patches", "toldParts", "I", false), ("StarTales$Patches", "someParts", "[I", true), ("StarTales$Patches", "otherParts", "[I", true), ("StarTales$Patches", "sky", "LStarTales$Sky;", true)]
def z_F11 : List (String × String × String × Bool) := [("StarTales$Chooser", "shown", "[I", true), ("StarTales$Chooser", "parts", "[I", true), ("StarTales$Chooser", "partsUpTo", "[I", true), ("StarTales$Chooser", "worth", "[I", true), ("StarTales$Chooser", "weight", "[I", true), ("StarTales$Chooser", "bestWorth", "[I", true), ("StarTales$Chooser", "bestBits", "[I", true)]
def z_F12 : List (String × String × String × Bool) := [("StarTalesModel", "now", "[I", true), ("StarTalesModel", "aside", "[I", true), ("StarTalesModel", "kept", "[I", true), ("StarTalesModel", "tape", "[B", true), ("StarTalesModel", "taped", "I", false), ("StarTalesModel", "place0", "I", false), ("StarTalesModel", "length0", "I", false), ("StarTalesModel", "fault", "I", false), ("StarTalesModel", "open", "I", false), ("StarTalesModel", "codeMany", "I", false), ("StarTalesModel", "waiting", "I", false), ("StarTalesModel", "saidMany", "I", false), ("StarTalesModel", "number0", "I", false), ("StarTalesModel", "clauses", "I", false), ("StarTalesModel", "said", "[I", true), ("StarTalesModel", "waits", "[I", true), ("StarTalesModel", "saidLetter", "[I", true), ("StarTalesModel", "saidFrom", "[I", true), ("StarTalesModel", "saidHalf", "[I", true), ("StarTalesModel", "saidTo", "[I", true), ("StarTalesModel", "codes", "[I", true), ("StarTalesModel", "clauseOf", "[I", true), ("StarTalesModel", "codeFrom", "[I", true), ("StarTalesModel", "codeHalf", "[I", true), ("StarTalesModel", "codeTo", "[I", true), ("StarTalesModel", "stack", "[I", true), ("StarTalesModel", "facts", "[I", true), ("StarTalesModel", "seen0", "I", false), ("StarTalesModel", "linesOf", "[I", true), ("StarTalesModel", "figures", "I", false), ("StarTalesModel", "largest", "I", false), ("StarTalesModel", "taleLines", "I", false), ("StarTalesModel", "newLines", "I", false), ("StarTalesModel", "namesIn", "I", false), ("StarTalesModel", "fromName", "[I", true), ("StarTalesModel", "toName", "[I", true), ("StarTalesModel", "newFrom", "[I", true), ("StarTalesModel", "newTo", "[I", true), ("StarTalesModel", "nameAt", "[I", true), ("StarTalesModel", "starFor", "[I", true), ("StarTalesModel", "firstFor", "[I", true), ("StarTalesModel", "nameMany", "I", false), ("StarTalesModel", "partsOf", "[I", true), ("StarTalesModel", "partMany", "[I", true), ("StarTalesModel", "parts", "[I", true), ("StarTalesModel", "toldParts", "[I", true), ("StarTalesModel", "namedAt", "[I", true), ("StarTalesModel", "unlike", "[I", true), ("StarTalesModel", "unlikeMany", "I", false), ("StarTalesModel", "worthOf", "[I", true), ("StarTalesModel", "heavyOf", "[I", true), ("StarTalesModel", "mostBy", "[I", true), ("StarTalesModel", "farA", "[I", true), ("StarTalesModel", "farB", "[I", true), ("StarTalesModel", "queue", "[I", true), ("StarTalesModel", "twoHours", "I", false), ("StarTalesModel", "twoFirst", "I", false), ("StarTalesModel", "twoFor", "I", false), ("StarTalesModel", "twoSecond", "I", false), ("StarTalesModel", "otherLines", "[I", true), ("StarTalesModel", "logTold", "[I", true), ("StarTalesModel", "logHow", "[I", true), ("StarTalesModel", "whereAt", "[I", true), ("StarTalesModel", "isKept", "Z", false)]
def z_cl : List vw_C := [("StarTales", (fun k => z_F0.getD k ("", "", "", false)), 19), ("StarTales$Sky", (fun k => z_F1.getD k ("", "", "", false)), 12), ("StarTales$Sea", (fun k => z_F2.getD k ("", "", "", false)), 3), ("StarTales$Tape", (fun k => z_F3.getD k ("", "", "", false)), 2), ("StarTales$Law", (fun k => z_F4.getD k ("", "", "", false)), 15), ("StarTales$LawReader", (fun k => z_F5.getD k ("", "", "", false)), 5), ("StarTales$Tale", (fun k => z_F6.getD k ("", "", "", false)), 3), ("StarTales$View", (fun k => z_F7.getD k ("", "", "", false)), 10), ("StarTales$Matcher", (fun k => z_F8.getD k ("", "", "", false)), 7), ("StarTales$Pilot", (fun k => z_F9.getD k ("", "", "", false)), 15), ("StarTales$Patches", (fun k => z_F10.getD k ("", "", "", false)), 7), ("StarTales$Chooser", (fun k => z_F11.getD k ("", "", "", false)), 7), ("StarTalesModel", (fun k => z_F12.getD k ("", "", "", false)), 64)]
def z_FTL : List (List FieldType) := [[.object "StarTales$Sky", .object "StarTales$Sky", .object "StarTales$Sky", .object "StarTales$Sea", .object "StarTales$Sea", .boolean, .object "StarTales$Tape", .object "StarTales$Law", .object "StarTales$Law", .object "StarTales$LawReader", .object "StarTales$Tale", .object "StarTales$Tale", .object "StarTales$View", .object "StarTales$View", .object "StarTales$Matcher", .object "StarTales$Pilot", .object "StarTales$Patches", .object "StarTales$Chooser", .array .int], [.int, .array .int, .array .int, .array .int, .array .int, .array .int, .int, .int, .int, .int, .int, .int], [.array .int, .int, .array .int], [.array .int, .int], [.array .int, .array .int, .int, .array .int, .array .int, .array .int, .array .int, .int, .boolean, .boolean, .boolean, .boolean, .array .int, .array .int, .int], [.array .int, .int, .int, .int, .object "StarTales$Law"], [.int, .int, .array .int], [.object "StarTales$Sky", .object "StarTales$Law", .int, .int, .int, .array .int, .int, .int, .array .int, .array .int], [.array .int, .array .int, .array .int, .object "StarTales$Tale", .array .int, .int, .int], [.int, .int, .int, .int, .array .int, .array .int, .array .int, .array .int, .array .int, .int, .int, .array .int, .array .int, .array .int, .array .int], [.array .int, .array .long, .array .int, .int, .array .int, .array .int, .object "StarTales$Sky"], [.array .int, .array .int, .array .int, .array .int, .array .int, .array .int, .array .int], [.array .int, .array .int, .array .int, .array .byte, .int, .int, .int, .int, .int, .int, .int, .int, .int, .int, .array .int, .array .int, .array .int, .array .int, .array .int, .array .int, .array .int, .array .int, .array .int, .array .int, .array .int, .array .int, .array .int, .int, .array .int, .int, .int, .int, .int, .int, .array .int, .array .int, .array .int, .array .int, .array .int, .array .int, .array .int, .int, .array .int, .array .int, .array .int, .array .int, .array .int, .array .int, .int, .array .int, .array .int, .array .int, .array .int, .array .int, .array .int, .int, .int, .int, .int, .array .int, .array .int, .array .int, .array .int, .boolean]]
def z_FT (ci k : Nat) : FieldType := (z_FTL.getD ci []).getD k .int
def zxm0 : zM := (⟨"StarTales", "<init>", "()V"⟩, prog_1_method_1_code, 1, none, 0, 0)
def zxm1 : zM := (⟨"StarTales$Sky", "<init>", "()V"⟩, prog_9_method_1_code, 1, none, 0, 1)
def zxm2 : zM := (⟨"StarTales$Sea", "<init>", "()V"⟩, prog_8_method_1_code, 1, none, 0, 2)
def zxm3 : zM := (⟨"StarTales$Tape", "<init>", "()V"⟩, prog_11_method_1_code, 1, none, 0, 3)
def zxm4 : zM := (⟨"StarTales$Law", "<init>", "()V"⟩, prog_3_method_1_code, 1, none, 0, 4)
def zxm5 : zM := (⟨"java/lang/String", "length", "()I"⟩, prog_18_method_54_code, 1, some .int, 0, 0)
def zxm6 : zM := (⟨"java/lang/String", "coder", "()B"⟩, prog_18_method_152_code, 1, some .byte, 0, 0)
def zxm7 : zM := (⟨"StarTales$LawReader", "<init>", "([ILStarTales$Law;)V"⟩, prog_4_method_1_code, 3, none, 2, 5)
def zxm8 : zM := (⟨"StarTales$Tale", "<init>", "()V"⟩, prog_10_method_1_code, 1, none, 0, 6)
def zxm9 : zM := (⟨"StarTales$View", "<init>", "(LStarTales$Sky;LStarTales$Law;)V"⟩, prog_12_method_1_code, 3, none, 2, 7)
def zxm10 : zM := (⟨"StarTales$Matcher", "<init>", "(LStarTales$Tale;[I)V"⟩, prog_5_method_1_code, 3, none, 2, 8)
def zxm11 : zM := (⟨"StarTales$Pilot", "<init>", "()V"⟩, prog_7_method_1_code, 1, none, 0, 9)
def zxm12 : zM := (⟨"StarTales$Patches", "<init>", "(LStarTales$Sky;)V"⟩, prog_6_method_1_code, 2, none, 1, 10)
def zxm13 : zM := (⟨"StarTales$Chooser", "<init>", "()V"⟩, prog_2_method_1_code, 1, none, 0, 11)
def zxm14 : zM := (⟨"StarTales", "star", "(IIII)Z"⟩, prog_1_method_2_code, 5, some .boolean, 4, 0)
def zxm15 : zM := (⟨"StarTales", "isWithin", "(III)Z"⟩, prog_1_method_41_code, 3, some .boolean, 3, 0)
def zxm16 : zM := (⟨"StarTales", "isPlace", "(II)Z"⟩, prog_1_method_42_code, 2, some .boolean, 2, 0)
def zxm17 : zM := (⟨"StarTales", "walk", "(III)Z"⟩, prog_1_method_3_code, 4, some .boolean, 3, 0)
def zxm18 : zM := (⟨"StarTales$Sky", "hasStar", "(I)Z"⟩, prog_9_method_2_code, 2, some .boolean, 1, 1)
def zxm19 : zM := (⟨"StarTales", "gone", "(I)Z"⟩, prog_1_method_4_code, 2, some .boolean, 1, 0)
def zxm20 : zM := (⟨"StarTales", "hour", "(I)Z"⟩, prog_1_method_5_code, 2, some .boolean, 1, 0)
def zxm21 : zM := (⟨"StarTales", "clouds", "(I)Z"⟩, prog_1_method_6_code, 2, some .boolean, 1, 0)
def zxm22 : zM := (⟨"StarTales", "sight", "(II)Z"⟩, prog_1_method_7_code, 3, some .boolean, 2, 0)
def zxm23 : zM := (⟨"StarTales", "land", "(IIZ)Z"⟩, prog_1_method_8_code, 4, some .boolean, 3, 0)
def zxm24 : zM := (⟨"StarTales", "placeOf", "(II)I"⟩, prog_1_method_43_code, 2, some .int, 2, 0)
def zxm25 : zM := (⟨"StarTales$Sea", "hasShipAt", "(I)Z"⟩, prog_8_method_6_code, 3, some .boolean, 1, 2)
def zxm26 : zM := (⟨"StarTales$Sea", "hasShip", "(I)Z"⟩, prog_8_method_5_code, 2, some .boolean, 1, 2)
def zxm27 : zM := (⟨"StarTales$Sea", "setLand", "(IIZ)V"⟩, prog_8_method_3_code, 4, none, 3, 2)
def zxm28 : zM := (⟨"StarTales", "ship", "(III)Z"⟩, prog_1_method_9_code, 4, some .boolean, 3, 0)
def zxm29 : zM := (⟨"StarTales$Sea", "isLand", "(I)Z"⟩, prog_8_method_2_code, 2, some .boolean, 1, 2)
def zxm30 : zM := (⟨"StarTales", "rowOf", "(I)I"⟩, prog_1_method_45_code, 1, some .int, 1, 0)
def zxm31 : zM := (⟨"StarTales", "columnOf", "(I)I"⟩, prog_1_method_44_code, 1, some .int, 1, 0)
def zxm32 : zM := (⟨"StarTales", "feed", "(IIIII)I"⟩, prog_1_method_10_code, 6, some .int, 5, 0)
def zxm33 : zM := (⟨"StarTales$Tape", "addNumber", "(I)V"⟩, prog_11_method_2_code, 3, none, 1, 3)
def zxm34 : zM := (⟨"StarTales", "law", "(I)I"⟩, prog_1_method_11_code, 4, some .int, 1, 0)
def zxm35 : zM := (⟨"StarTales$Tape", "take", "(I)Z"⟩, prog_11_method_3_code, 2, some .boolean, 1, 3)
def zxm36 : zM := (⟨"StarTales$LawReader", "read", "(ILStarTales$Law;)I"⟩, prog_4_method_2_code, 4, some .int, 2, 5)
def zxm37 : zM := (⟨"java/lang/Math", "min", "(II)I"⟩, prog_17_method_69_code, 2, some .int, 2, 0)
def zxm38 : zM := (⟨"StarTales$Law", "clear", "()V"⟩, prog_3_method_2_code, 1, none, 0, 4)
def zxm39 : zM := (⟨"StarTales$LawReader", "readClause", "()V"⟩, prog_4_method_6_code, 5, none, 0, 5)
def zxm40 : zM := (⟨"StarTales$LawReader", "peek", "()I"⟩, prog_4_method_3_code, 1, some .int, 0, 5)
def zxm41 : zM := (⟨"StarTales$LawReader", "fail", "(I)V"⟩, prog_4_method_4_code, 2, none, 1, 5)
def zxm42 : zM := (⟨"StarTales", "faultAt", "(II)I"⟩, prog_1_method_48_code, 2, some .int, 2, 0)
def zxm43 : zM := (⟨"StarTales$LawReader", "readSum", "(I)V"⟩, prog_4_method_11_code, 3, none, 1, 5)
def zxm44 : zM := (⟨"StarTales$LawReader", "readTerm", "(I)V"⟩, prog_4_method_12_code, 3, none, 1, 5)
def zxm45 : zM := (⟨"StarTales$LawReader", "readFactor", "(I)V"⟩, prog_4_method_13_code, 4, none, 1, 5)
def zxm46 : zM := (⟨"StarTales$LawReader", "skip", "(I)V"⟩, prog_4_method_5_code, 2, none, 1, 5)
def zxm47 : zM := (⟨"StarTales$LawReader", "isDigit", "(I)Z"⟩, prog_4_method_15_code, 1, some .boolean, 1, 5)
def zxm48 : zM := (⟨"StarTales$LawReader", "readNumber", "()V"⟩, prog_4_method_14_code, 3, none, 0, 5)
def zxm49 : zM := (⟨"StarTales$Law", "addStep", "(II)I"⟩, prog_3_method_3_code, 3, some .int, 2, 4)
def zxm50 : zM := (⟨"java/lang/String", "indexOf", "(I)I"⟩, prog_18_method_79_code, 2, some .int, 1, 0)
def zxm51 : zM := (⟨"java/lang/String", "indexOf", "(II)I"⟩, prog_18_method_80_code, 3, some .int, 2, 0)
def zxm52 : zM := (⟨"java/lang/String", "isLatin1", "()Z"⟩, prog_18_method_154_code, 1, some .boolean, 0, 0)
def zxm53 : zM := (⟨"java/lang/StringLatin1", "indexOf", "([BIII)I"⟩, prog_19_method_22_code, 4, some .int, 4, 0)
def zxm54 : zM := (⟨"java/lang/StringLatin1", "canEncode", "(I)Z"⟩, prog_19_method_4_code, 1, some .boolean, 1, 0)
def zxm55 : zM := (⟨"java/lang/Math", "max", "(II)I"⟩, prog_17_method_65_code, 2, some .int, 2, 0)
def zxm56 : zM := (⟨"java/lang/StringLatin1", "indexOfChar", "([BIII)I"⟩, prog_19_method_23_code, 6, some .int, 4, 0)
def zxm57 : zM := (⟨"java/lang/StringUTF16", "indexOf", "([BIII)I"⟩, prog_20_method_40_code, 4, some .int, 4, 0)
def zxm58 : zM := (⟨"java/lang/StringUTF16", "indexOfChar", "([BIII)I"⟩, prog_20_method_47_code, 4, some .int, 4, 0)
def zxm59 : zM := (⟨"java/lang/StringUTF16", "checkBoundsBeginEnd", "(II[B)V"⟩, prog_20_method_93_code, 3, none, 3, 0)
def zxm60 : zM := (⟨"java/lang/StringUTF16", "length", "([B)I"⟩, prog_20_method_6_code, 1, some .int, 1, 0)
def zxm61 : zM := (⟨"java/lang/String", "checkBoundsBeginEnd", "(III)V"⟩, prog_18_method_158_code, 3, none, 3, 0)
def zxm62 : zM := (⟨"jdk/internal/util/Preconditions", "checkFromToIndex", "(IIILjava/util/function/BiFunction;)I"⟩, prog_23_method_12_code, 4, some .int, 4, 0)
def zxm63 : zM := (⟨"java/lang/StringUTF16", "indexOfCharUnsafe", "([BIII)I"⟩, prog_20_method_48_code, 5, some .int, 4, 0)
def zxm64 : zM := (⟨"java/lang/StringUTF16", "getChar", "([BI)C"⟩, prog_20_method_5_code, 2, some .char, 2, 0)
def zxm65 : zM := (⟨"java/lang/StringUTF16", "indexOfSupplementary", "([BIII)I"⟩, prog_20_method_49_code, 7, some .int, 4, 0)
def zxm66 : zM := (⟨"java/lang/Character", "isValidCodePoint", "(I)Z"⟩, prog_15_method_11_code, 2, some .boolean, 1, 0)
def zxm67 : zM := (⟨"java/lang/Character", "highSurrogate", "(I)C"⟩, prog_15_method_28_code, 1, some .char, 1, 0)
def zxm68 : zM := (⟨"java/lang/Character", "lowSurrogate", "(I)C"⟩, prog_15_method_29_code, 1, some .char, 1, 0)
def zxm69 : zM := (⟨"StarTales$LawReader", "readCondition", "(I)V"⟩, prog_4_method_7_code, 3, none, 1, 5)
def zxm70 : zM := (⟨"StarTales$LawReader", "readPart", "(I)V"⟩, prog_4_method_8_code, 3, none, 1, 5)
def zxm71 : zM := (⟨"StarTales$LawReader", "readPiece", "(I)V"⟩, prog_4_method_9_code, 3, none, 1, 5)
def zxm72 : zM := (⟨"StarTales$LawReader", "readComparison", "(I)V"⟩, prog_4_method_10_code, 3, none, 1, 5)
def zxm73 : zM := (⟨"StarTales$Law", "landJump", "(I)V"⟩, prog_3_method_4_code, 2, none, 1, 4)
def zxm74 : zM := (⟨"StarTales$Law", "addClause", "(III)V"⟩, prog_3_method_5_code, 4, none, 3, 4)
def zxm75 : zM := (⟨"StarTales$Law", "hasLetter", "(II)Z"⟩, prog_3_method_6_code, 4, some .boolean, 2, 4)
def zxm76 : zM := (⟨"StarTales", "tale", "(I)I"⟩, prog_1_method_12_code, 4, some .int, 1, 0)
def zxm77 : zM := (⟨"StarTales$Tale", "read", "([II)I"⟩, prog_10_method_2_code, 6, some .int, 2, 6)
def zxm78 : zM := (⟨"java/util/Arrays", "fill", "([II)V"⟩, prog_22_method_103_code, 4, none, 2, 0)
def zxm79 : zM := (⟨"StarTales$Tale", "nameAt", "([III)I"⟩, prog_10_method_3_code, 4, some .int, 3, 6)
def zxm80 : zM := (⟨"StarTales$Tale", "addLine", "(II)V"⟩, prog_10_method_4_code, 3, none, 2, 6)
def zxm81 : zM := (⟨"StarTales", "starIs", "(II)I"⟩, prog_1_method_13_code, 3, some .int, 2, 0)
def zxm82 : zM := (⟨"StarTales$Sky", "standing", "(I)I"⟩, prog_9_method_3_code, 2, some .int, 1, 1)
def zxm83 : zM := (⟨"StarTales", "seen", "(II)I"⟩, prog_1_method_14_code, 3, some .int, 2, 0)
def zxm84 : zM := (⟨"StarTales$View", "open", "(LStarTales$Sky;LStarTales$Law;)V"⟩, prog_12_method_2_code, 3, none, 2, 7)
def zxm85 : zM := (⟨"StarTales$View", "look", "(II)V"⟩, prog_12_method_4_code, 4, none, 2, 7)
def zxm86 : zM := (⟨"StarTales$View", "goTo", "(II)V"⟩, prog_12_method_3_code, 3, none, 2, 7)
def zxm87 : zM := (⟨"StarTales$Law", "forgetLetters", "()V"⟩, prog_3_method_7_code, 1, none, 0, 4)
def zxm88 : zM := (⟨"StarTales$Law", "setTime", "(LStarTales$Sky;)V"⟩, prog_3_method_8_code, 2, none, 1, 4)
def zxm89 : zM := (⟨"StarTales$View", "sees", "(I)Z"⟩, prog_12_method_5_code, 6, some .boolean, 1, 7)
def zxm90 : zM := (⟨"StarTales", "columnsBetween", "(II)I"⟩, prog_1_method_46_code, 3, some .int, 2, 0)
def zxm91 : zM := (⟨"java/lang/Math", "abs", "(I)I"⟩, prog_17_method_59_code, 1, some .int, 1, 0)
def zxm92 : zM := (⟨"StarTales$Law", "setStar", "(LStarTales$Sky;I)V"⟩, prog_3_method_9_code, 3, none, 2, 4)
def zxm93 : zM := (⟨"StarTales$Law", "anyHolds", "(I)Z"⟩, prog_3_method_11_code, 3, some .boolean, 1, 4)
def zxm94 : zM := (⟨"StarTales$Law", "run", "(II)Z"⟩, prog_3_method_13_code, 8, some .boolean, 2, 4)
def zxm95 : zM := (⟨"StarTales", "line", "(IIII)I"⟩, prog_1_method_15_code, 5, some .int, 4, 0)
def zxm96 : zM := (⟨"StarTales", "lookAndDraw", "(LStarTales$View;II)V"⟩, prog_1_method_49_code, 4, none, 3, 0)
def zxm97 : zM := (⟨"StarTales$View", "draw", "()V"⟩, prog_12_method_6_code, 3, none, 0, 7)
def zxm98 : zM := (⟨"StarTales$View", "isDrawn", "(II)Z"⟩, prog_12_method_7_code, 3, some .boolean, 2, 7)
def zxm99 : zM := (⟨"StarTales$Law", "setOther", "(LStarTales$Sky;I)V"⟩, prog_3_method_10_code, 3, none, 2, 4)
def zxm100 : zM := (⟨"StarTales", "sky", "(III)I"⟩, prog_1_method_16_code, 5, some .int, 3, 0)
def zxm101 : zM := (⟨"StarTales$View", "countLines", "()I"⟩, prog_12_method_10_code, 3, some .int, 0, 7)
def zxm102 : zM := (⟨"java/lang/Integer", "bitCount", "(I)I"⟩, prog_16_method_49_code, 1, some .int, 1, 0)
def zxm103 : zM := (⟨"StarTales$View", "countFigures", "()I"⟩, prog_12_method_12_code, 4, some .int, 0, 7)
def zxm104 : zM := (⟨"StarTales$View", "reach", "(III)I"⟩, prog_12_method_11_code, 9, some .int, 3, 7)
def zxm105 : zM := (⟨"StarTales", "lowestOf", "(I)I"⟩, prog_1_method_47_code, 1, some .int, 1, 0)
def zxm106 : zM := (⟨"StarTales$View", "largestFigure", "()I"⟩, prog_12_method_13_code, 5, some .int, 0, 7)
def zxm107 : zM := (⟨"StarTales$View", "countHolding", "()I"⟩, prog_12_method_14_code, 4, some .int, 0, 7)
def zxm108 : zM := (⟨"StarTales$View", "mostLegged", "()I"⟩, prog_12_method_15_code, 3, some .int, 0, 7)
def zxm109 : zM := (⟨"StarTales$View", "legsOf", "(I)I"⟩, prog_12_method_16_code, 2, some .int, 1, 7)
def zxm110 : zM := (⟨"StarTales", "figure", "(III)I"⟩, prog_1_method_17_code, 4, some .int, 3, 0)
def zxm111 : zM := (⟨"StarTales", "matched", "(III)I"⟩, prog_1_method_18_code, 4, some .int, 3, 0)
def zxm112 : zM := (⟨"StarTales$Matcher", "countWays", "(LStarTales$Tale;I[II)I"⟩, prog_5_method_2_code, 5, some .int, 4, 8)
def zxm113 : zM := (⟨"StarTales$Matcher", "begin", "(LStarTales$Tale;I[I)V"⟩, prog_5_method_5_code, 8, none, 3, 8)
def zxm114 : zM := (⟨"StarTales$Matcher", "withLegs", "(II)I"⟩, prog_5_method_6_code, 5, some .int, 2, 8)
def zxm115 : zM := (⟨"StarTales$Matcher", "search", "(III)I"⟩, prog_5_method_7_code, 10, some .int, 3, 8)
def zxm116 : zM := (⟨"StarTales$Matcher", "tightest", "(II)I"⟩, prog_5_method_8_code, 8, some .int, 2, 8)
def zxm117 : zM := (⟨"StarTales$Matcher", "narrow", "(IIII)Z"⟩, prog_5_method_9_code, 9, some .boolean, 4, 8)
def zxm118 : zM := (⟨"StarTales$Matcher", "agree", "(II)Z"⟩, prog_5_method_10_code, 10, some .boolean, 2, 8)
def zxm119 : zM := (⟨"StarTales$Matcher", "besides", "(I)I"⟩, prog_5_method_11_code, 4, some .int, 1, 8)
def zxm120 : zM := (⟨"StarTales$Matcher", "findFirst", "(LStarTales$Tale;I[I)Z"⟩, prog_5_method_3_code, 5, some .boolean, 3, 8)
def zxm121 : zM := (⟨"StarTales$Matcher", "settleLowest", "(I)Z"⟩, prog_5_method_4_code, 4, some .boolean, 1, 8)
def zxm122 : zM := (⟨"StarTales", "where", "(I)I"⟩, prog_1_method_19_code, 4, some .int, 1, 0)
def zxm123 : zM := (⟨"StarTales", "canBeTold", "(I)Z"⟩, prog_1_method_50_code, 2, some .boolean, 1, 0)
def zxm124 : zM := (⟨"StarTales", "when", "(II)I"⟩, prog_1_method_20_code, 5, some .int, 2, 0)
def zxm125 : zM := (⟨"StarTales$Sky", "copyFrom", "(LStarTales$Sky;)V"⟩, prog_9_method_9_code, 2, none, 1, 1)
def zxm126 : zM := (⟨"StarTales", "alike", "(I)I"⟩, prog_1_method_21_code, 3, some .int, 1, 0)
def zxm127 : zM := (⟨"StarTales$Patches", "lookEverywhere", "(LStarTales$View;)V"⟩, prog_6_method_2_code, 5, none, 1, 10)
def zxm128 : zM := (⟨"StarTales$Patches", "fillParts", "(II[I)I"⟩, prog_6_method_3_code, 8, some .int, 3, 10)
def zxm129 : zM := (⟨"java/lang/Math", "floorMod", "(II)I"⟩, prog_17_method_50_code, 3, some .int, 2, 0)
def zxm130 : zM := (⟨"StarTales$Patches", "partOf", "(III)I"⟩, prog_6_method_4_code, 3, some .int, 3, 10)
def zxm131 : zM := (⟨"StarTales$Patches", "countAlike", "()I"⟩, prog_6_method_6_code, 3, some .int, 0, 10)
def zxm132 : zM := (⟨"StarTales$Patches", "alikeTo", "(II)I"⟩, prog_6_method_8_code, 4, some .int, 2, 10)
def zxm133 : zM := (⟨"StarTales$Patches", "isSame", "(II)Z"⟩, prog_6_method_9_code, 5, some .boolean, 2, 10)
def zxm134 : zM := (⟨"StarTales$Patches", "hasAll", "([II[II)Z"⟩, prog_6_method_5_code, 7, some .boolean, 4, 10)
def zxm135 : zM := (⟨"StarTales$Patches", "firstAlike", "()I"⟩, prog_6_method_7_code, 2, some .int, 0, 10)
def zxm136 : zM := (⟨"StarTales", "known", "(II)I"⟩, prog_1_method_22_code, 5, some .int, 2, 0)
def zxm137 : zM := (⟨"StarTales$Patches", "takeParts", "(LStarTales$Tape;I)V"⟩, prog_6_method_10_code, 4, none, 2, 10)
def zxm138 : zM := (⟨"StarTales$Tape", "byteAt", "(I)I"⟩, prog_11_method_4_code, 2, some .int, 1, 3)
def zxm139 : zM := (⟨"StarTales$Patches", "isKnown", "(LStarTales$View;Z)Z"⟩, prog_6_method_11_code, 4, some .boolean, 2, 10)
def zxm140 : zM := (⟨"StarTales", "named", "(II)I"⟩, prog_1_method_23_code, 6, some .int, 2, 0)
def zxm141 : zM := (⟨"StarTales$Chooser", "fewestNamed", "(I)I"⟩, prog_2_method_2_code, 7, some .int, 1, 11)
def zxm142 : zM := (⟨"StarTales$Chooser", "pairsApart", "(II)I"⟩, prog_2_method_3_code, 7, some .int, 2, 11)
def zxm143 : zM := (⟨"StarTales$Chooser", "leastCover", "(III)I"⟩, prog_2_method_4_code, 7, some .int, 3, 11)
def zxm144 : zM := (⟨"StarTales", "sold", "(II)I"⟩, prog_1_method_24_code, 4, some .int, 2, 0)
def zxm145 : zM := (⟨"StarTales$Chooser", "weighStars", "(LStarTales$Sky;LStarTales$Law;)V"⟩, prog_2_method_5_code, 4, none, 2, 11)
def zxm146 : zM := (⟨"StarTales$Law", "amount", "(II)I"⟩, prog_3_method_12_code, 4, some .int, 2, 4)
def zxm147 : zM := (⟨"StarTales$Chooser", "bestSold", "(II)I"⟩, prog_2_method_6_code, 4, some .int, 2, 11)
def zxm148 : zM := (⟨"StarTales$Chooser", "offer", "(II)V"⟩, prog_2_method_7_code, 5, none, 2, 11)
def zxm149 : zM := (⟨"StarTales$Chooser", "worthOf", "(I)I"⟩, prog_2_method_8_code, 4, some .int, 1, 11)
def zxm150 : zM := (⟨"StarTales$Chooser", "weightOf", "(I)I"⟩, prog_2_method_9_code, 4, some .int, 1, 11)
def zxm151 : zM := (⟨"StarTales", "steered", "(IIIZ)I"⟩, prog_1_method_25_code, 7, some .int, 4, 0)
def zxm152 : zM := (⟨"StarTales$Sky", "drawClouds", "(LStarTales$Law;)V"⟩, prog_9_method_8_code, 4, none, 1, 1)
def zxm153 : zM := (⟨"StarTales$Pilot", "step", "(LStarTales$View;LStarTales$Sea;II)I"⟩, prog_7_method_2_code, 12, some .int, 4, 9)
def zxm154 : zM := (⟨"StarTales$Sea", "goFrom", "(II)I"⟩, prog_8_method_7_code, 5, some .int, 2, 2)
def zxm155 : zM := (⟨"StarTales$Sky", "passHour", "()V"⟩, prog_9_method_7_code, 1, none, 0, 1)
def zxm156 : zM := (⟨"StarTales$Sky", "beginNight", "()V"⟩, prog_9_method_6_code, 2, none, 0, 1)
def zxm157 : zM := (⟨"StarTales$Sky", "columnNextNight", "(I)I"⟩, prog_9_method_4_code, 2, some .int, 1, 1)
def zxm158 : zM := (⟨"StarTales$Sky", "rowNextNight", "(I)I"⟩, prog_9_method_5_code, 2, some .int, 1, 1)
def zxm159 : zM := (⟨"StarTales", "hours", "(I)I"⟩, prog_1_method_26_code, 3, some .int, 1, 0)
def zxm160 : zM := (⟨"StarTales", "found", "()I"⟩, prog_1_method_27_code, 5, some .int, 0, 0)
def zxm161 : zM := (⟨"StarTales", "meeting", "(III)I"⟩, prog_1_method_28_code, 5, some .int, 3, 0)
def zxm162 : zM := (⟨"StarTales$Pilot", "meetingPlace", "(LStarTales$Sea;II)I"⟩, prog_7_method_10_code, 7, some .int, 3, 9)
def zxm163 : zM := (⟨"StarTales$Pilot", "spread", "(LStarTales$Sea;I[I)V"⟩, prog_7_method_12_code, 9, none, 3, 9)
def zxm164 : zM := (⟨"StarTales$Pilot", "hoursTo", "(I)I"⟩, prog_7_method_11_code, 2, some .int, 1, 9)
def zxm165 : zM := (⟨"StarTales", "fastest", "(IIIII)I"⟩, prog_1_method_29_code, 6, some .int, 5, 0)
def zxm166 : zM := (⟨"StarTales", "canAskVoyage", "(III)Z"⟩, prog_1_method_51_code, 4, some .boolean, 3, 0)
def zxm167 : zM := (⟨"StarTales$Pilot", "findFastest", "(LStarTales$View;LStarTales$Sea;III)Z"⟩, prog_7_method_3_code, 9, some .boolean, 5, 9)
def zxm168 : zM := (⟨"StarTales$Pilot", "stepFirstLegs", "(LStarTales$View;LStarTales$Sea;)V"⟩, prog_7_method_6_code, 4, none, 2, 9)
def zxm169 : zM := (⟨"StarTales$Pilot", "turnOnward", "(LStarTales$View;)V"⟩, prog_7_method_5_code, 2, none, 1, 9)
def zxm170 : zM := (⟨"StarTales", "byTwo", "(IIIII)I"⟩, prog_1_method_30_code, 6, some .int, 5, 0)
def zxm171 : zM := (⟨"StarTales$Pilot", "findByTwo", "(LStarTales$View;LStarTales$Sea;LStarTales$Sky;III)Z"⟩, prog_7_method_4_code, 8, some .boolean, 6, 9)
def zxm172 : zM := (⟨"StarTales$Pilot", "endFirstLegs", "(LStarTales$Sky;I)V"⟩, prog_7_method_7_code, 4, none, 2, 9)
def zxm173 : zM := (⟨"StarTales$Pilot", "isBroughtByLower", "(LStarTales$Sky;I)Z"⟩, prog_7_method_8_code, 4, some .boolean, 2, 9)
def zxm174 : zM := (⟨"StarTales$Pilot", "followSecond", "(LStarTales$View;LStarTales$Sea;III)V"⟩, prog_7_method_9_code, 10, none, 5, 9)
def zxm175 : zM := (⟨"StarTales", "both", "(III)I"⟩, prog_1_method_31_code, 5, some .int, 3, 0)
def zxm176 : zM := (⟨"StarTales$View", "keepShared", "(LStarTales$View;)V"⟩, prog_12_method_8_code, 3, none, 1, 7)
def zxm177 : zM := (⟨"StarTales", "hidden", "(III)I"⟩, prog_1_method_32_code, 5, some .int, 3, 0)
def zxm178 : zM := (⟨"StarTales$Matcher", "fewestColumns", "(LStarTales$Tale;LStarTales$View;)I"⟩, prog_5_method_12_code, 4, some .int, 2, 8)
def zxm179 : zM := (⟨"StarTales$Matcher", "hide", "(LStarTales$Tale;LStarTales$View;II)V"⟩, prog_5_method_13_code, 8, none, 4, 8)
def zxm180 : zM := (⟨"StarTales$Matcher", "notIn", "(LStarTales$View;I)I"⟩, prog_5_method_14_code, 4, some .int, 2, 8)
def zxm181 : zM := (⟨"StarTales$Matcher", "columnsOfWay", "(LStarTales$Tale;LStarTales$Sky;)I"⟩, prog_5_method_15_code, 5, some .int, 2, 8)
def zxm182 : zM := (⟨"StarTales", "log", "(II)I"⟩, prog_1_method_33_code, 7, some .int, 2, 0)
def zxm183 : zM := (⟨"StarTales", "isLogBytes", "(I)Z"⟩, prog_1_method_52_code, 3, some .boolean, 1, 0)
def zxm184 : zM := (⟨"StarTales", "moveSpots", "(I)V"⟩, prog_1_method_53_code, 3, none, 1, 0)
def zxm185 : zM := (⟨"StarTales", "countSpots", "()I"⟩, prog_1_method_54_code, 3, some .int, 0, 0)
def zxm186 : zM := (⟨"StarTales", "firstSpot", "()I"⟩, prog_1_method_55_code, 2, some .int, 0, 0)
def zxm187 : zM := (⟨"StarTales", "over", "(II)I"⟩, prog_1_method_34_code, 5, some .int, 2, 0)
def zxm188 : zM := (⟨"StarTales", "home", "(II)I"⟩, prog_1_method_35_code, 4, some .int, 2, 0)
def zxm189 : zM := (⟨"StarTales$View", "hasLinesOf", "(LStarTales$View;)Z"⟩, prog_12_method_9_code, 3, some .boolean, 1, 7)
def zxm190 : zM := (⟨"StarTales", "seed", "(I)Z"⟩, prog_1_method_36_code, 2, some .boolean, 1, 0)
def zxm191 : zM := (⟨"StarTales", "keep", "()I"⟩, prog_1_method_37_code, 1, some .int, 0, 0)
def zxm192 : zM := (⟨"StarTales$Sea", "copyFrom", "(LStarTales$Sea;)V"⟩, prog_8_method_8_code, 2, none, 1, 2)
def zxm193 : zM := (⟨"StarTales", "undo", "()Z"⟩, prog_1_method_38_code, 1, some .boolean, 0, 0)
def zxm194 : zM := (⟨"StarTales", "check", "(I)I"⟩, prog_1_method_39_code, 4, some .int, 1, 0)
def zxm195 : zM := (⟨"StarTales$Tape", "numberAt", "(I)I"⟩, prog_11_method_5_code, 2, some .int, 1, 3)
def zxm196 : zM := (⟨"StarTales", "count", "(I)I"⟩, prog_1_method_40_code, 2, some .int, 1, 0)
def zxm197 : zM := (⟨"StarTales$Sea", "countLand", "()I"⟩, prog_8_method_4_code, 3, some .int, 0, 2)
def zxm198 : zM := (⟨"StarTalesModel", "<init>", "()V"⟩, prog_14_method_1_code, 1, none, 0, 12)
def zxm199 : zM := (⟨"StarTalesModel", "star", "(IIII)Z"⟩, prog_14_method_17_code, 5, some .boolean, 4, 12)
def zxm200 : zM := (⟨"StarTalesModel", "in", "(III)Z"⟩, prog_14_method_2_code, 3, some .boolean, 3, 12)
def zxm201 : zM := (⟨"StarTalesModel", "isPlace", "(II)Z"⟩, prog_14_method_10_code, 2, some .boolean, 2, 12)
def zxm202 : zM := (⟨"StarTalesModel", "walk", "(III)Z"⟩, prog_14_method_18_code, 4, some .boolean, 3, 12)
def zxm203 : zM := (⟨"StarTalesModel", "isTold", "(I)Z"⟩, prog_14_method_11_code, 2, some .boolean, 1, 12)
def zxm204 : zM := (⟨"StarTalesModel", "has", "(II)Z"⟩, prog_14_method_5_code, 2, some .boolean, 2, 12)
def zxm205 : zM := (⟨"StarTalesModel", "gone", "(I)Z"⟩, prog_14_method_19_code, 2, some .boolean, 1, 12)
def zxm206 : zM := (⟨"StarTalesModel", "hour", "(I)Z"⟩, prog_14_method_20_code, 2, some .boolean, 1, 12)
def zxm207 : zM := (⟨"StarTalesModel", "clouds", "(I)Z"⟩, prog_14_method_21_code, 2, some .boolean, 1, 12)
def zxm208 : zM := (⟨"StarTalesModel", "sight", "(II)Z"⟩, prog_14_method_22_code, 3, some .boolean, 2, 12)
def zxm209 : zM := (⟨"StarTalesModel", "land", "(IIZ)Z"⟩, prog_14_method_23_code, 5, some .boolean, 3, 12)
def zxm210 : zM := (⟨"StarTalesModel", "isShip", "(I)Z"⟩, prog_14_method_12_code, 2, some .boolean, 1, 12)
def zxm211 : zM := (⟨"StarTalesModel", "ship", "(III)Z"⟩, prog_14_method_24_code, 4, some .boolean, 3, 12)
def zxm212 : zM := (⟨"StarTalesModel", "isLand", "(I)Z"⟩, prog_14_method_13_code, 2, some .boolean, 1, 12)
def zxm213 : zM := (⟨"StarTalesModel", "feed", "(IIIII)I"⟩, prog_14_method_26_code, 6, some .int, 5, 12)
def zxm214 : zM := (⟨"StarTalesModel", "types", "(I)V"⟩, prog_14_method_25_code, 3, none, 1, 12)
def zxm215 : zM := (⟨"StarTalesModel", "law", "(I)I"⟩, prog_14_method_48_code, 4, some .int, 1, 12)
def zxm216 : zM := (⟨"StarTalesModel", "readsClause", "()Z"⟩, prog_14_method_47_code, 2, some .boolean, 0, 12)
def zxm217 : zM := (⟨"StarTalesModel", "here", "()I"⟩, prog_14_method_27_code, 1, some .int, 0, 12)
def zxm218 : zM := (⟨"StarTalesModel", "isClause", "(I)Z"⟩, prog_14_method_46_code, 1, some .boolean, 1, 12)
def zxm219 : zM := (⟨"StarTalesModel", "wrongAt", "(II)Z"⟩, prog_14_method_29_code, 3, some .boolean, 2, 12)
def zxm220 : zM := (⟨"StarTalesModel", "readsSum", "()Z"⟩, prog_14_method_40_code, 3, some .boolean, 0, 12)
def zxm221 : zM := (⟨"StarTalesModel", "readsFactor", "()Z"⟩, prog_14_method_38_code, 2, some .boolean, 0, 12)
def zxm222 : zM := (⟨"StarTalesModel", "opens", "(I)Z"⟩, prog_14_method_33_code, 2, some .boolean, 1, 12)
def zxm223 : zM := (⟨"StarTalesModel", "isDigit", "()Z"⟩, prog_14_method_28_code, 1, some .boolean, 0, 12)
def zxm224 : zM := (⟨"StarTalesModel", "readsNumber", "()Z"⟩, prog_14_method_31_code, 2, some .boolean, 0, 12)
def zxm225 : zM := (⟨"StarTalesModel", "notes", "(II)V"⟩, prog_14_method_32_code, 3, none, 2, 12)
def zxm226 : zM := (⟨"StarTalesModel", "factOf", "(I)I"⟩, prog_14_method_35_code, 1, some .int, 1, 12)
def zxm227 : zM := (⟨"StarTalesModel", "sumSign", "(I)I"⟩, prog_14_method_36_code, 1, some .int, 1, 12)
def zxm228 : zM := (⟨"StarTalesModel", "closesSums", "(Z)V"⟩, prog_14_method_37_code, 2, none, 1, 12)
def zxm229 : zM := (⟨"StarTalesModel", "waitTop", "()I"⟩, prog_14_method_34_code, 1, some .int, 0, 12)
def zxm230 : zM := (⟨"StarTalesModel", "hasOpenSum", "(I)Z"⟩, prog_14_method_39_code, 3, some .boolean, 1, 12)
def zxm231 : zM := (⟨"StarTalesModel", "readsCondition", "()Z"⟩, prog_14_method_45_code, 1, some .boolean, 0, 12)
def zxm232 : zM := (⟨"StarTalesModel", "readsCompared", "()Z"⟩, prog_14_method_44_code, 2, some .boolean, 0, 12)
def zxm233 : zM := (⟨"StarTalesModel", "endsPiece", "()V"⟩, prog_14_method_41_code, 1, none, 0, 12)
def zxm234 : zM := (⟨"StarTalesModel", "lands", "(Z)V"⟩, prog_14_method_42_code, 3, none, 1, 12)
def zxm235 : zM := (⟨"StarTalesModel", "jumps", "(I)V"⟩, prog_14_method_43_code, 2, none, 1, 12)
def zxm236 : zM := (⟨"StarTalesModel", "takes", "(I)Z"⟩, prog_14_method_30_code, 2, some .boolean, 1, 12)
def zxm237 : zM := (⟨"StarTalesModel", "starIs", "(II)I"⟩, prog_14_method_60_code, 3, some .int, 2, 12)
def zxm238 : zM := (⟨"StarTalesModel", "standsAt", "(I)I"⟩, prog_14_method_16_code, 2, some .int, 1, 12)
def zxm239 : zM := (⟨"StarTalesModel", "seen", "(II)I"⟩, prog_14_method_61_code, 3, some .int, 2, 12)
def zxm240 : zM := (⟨"StarTalesModel", "seenFrom", "(I)I"⟩, prog_14_method_57_code, 4, some .int, 1, 12)
def zxm241 : zM := (⟨"StarTalesModel", "isSeen", "(II)Z"⟩, prog_14_method_56_code, 6, some .boolean, 2, 12)
def zxm242 : zM := (⟨"StarTalesModel", "toRight", "(II)I"⟩, prog_14_method_14_code, 3, some .int, 2, 12)
def zxm243 : zM := (⟨"StarTalesModel", "size", "(I)I"⟩, prog_14_method_4_code, 1, some .int, 1, 12)
def zxm244 : zM := (⟨"StarTalesModel", "hasClause", "(I)Z"⟩, prog_14_method_52_code, 3, some .boolean, 1, 12)
def zxm245 : zM := (⟨"StarTalesModel", "feelsStar", "(I)V"⟩, prog_14_method_55_code, 2, none, 1, 12)
def zxm246 : zM := (⟨"StarTalesModel", "feels", "()V"⟩, prog_14_method_54_code, 2, none, 0, 12)
def zxm247 : zM := (⟨"StarTalesModel", "way", "(IIII)I"⟩, prog_14_method_15_code, 4, some .int, 4, 12)
def zxm248 : zM := (⟨"StarTalesModel", "anyOf", "(I)Z"⟩, prog_14_method_53_code, 3, some .boolean, 1, 12)
def zxm249 : zM := (⟨"StarTalesModel", "comesTo", "(II)I"⟩, prog_14_method_50_code, 8, some .int, 2, 12)
def zxm250 : zM := (⟨"StarTalesModel", "reckon", "(III)I"⟩, prog_14_method_49_code, 3, some .int, 3, 12)
def zxm251 : zM := (⟨"StarTalesModel", "line", "(IIII)I"⟩, prog_14_method_62_code, 5, some .int, 4, 12)
def zxm252 : zM := (⟨"StarTalesModel", "looks", "(I)V"⟩, prog_14_method_59_code, 4, none, 1, 12)
def zxm253 : zM := (⟨"StarTalesModel", "isDrawn", "(III)Z"⟩, prog_14_method_58_code, 4, some .boolean, 3, 12)
def zxm254 : zM := (⟨"StarTalesModel", "sky", "(III)I"⟩, prog_14_method_68_code, 5, some .int, 3, 12)
def zxm255 : zM := (⟨"StarTalesModel", "laysFigures", "()V"⟩, prog_14_method_64_code, 4, none, 0, 12)
def zxm256 : zM := (⟨"StarTalesModel", "figureOf", "(I)I"⟩, prog_14_method_63_code, 5, some .int, 1, 12)
def zxm257 : zM := (⟨"StarTalesModel", "bits", "(I)I"⟩, prog_14_method_6_code, 3, some .int, 1, 12)
def zxm258 : zM := (⟨"StarTalesModel", "max", "(II)I"⟩, prog_14_method_3_code, 2, some .int, 2, 12)
def zxm259 : zM := (⟨"StarTalesModel", "mostLegs", "()I"⟩, prog_14_method_67_code, 3, some .int, 0, 12)
def zxm260 : zM := (⟨"StarTalesModel", "lineMany", "()I"⟩, prog_14_method_65_code, 3, some .int, 0, 12)
def zxm261 : zM := (⟨"StarTalesModel", "holding", "()I"⟩, prog_14_method_66_code, 4, some .int, 0, 12)
def zxm262 : zM := (⟨"StarTalesModel", "figure", "(III)I"⟩, prog_14_method_69_code, 4, some .int, 3, 12)
def zxm263 : zM := (⟨"StarTalesModel", "tale", "(I)I"⟩, prog_14_method_73_code, 4, some .int, 1, 12)
def zxm264 : zM := (⟨"StarTalesModel", "readsTaleLine", "()Z"⟩, prog_14_method_72_code, 4, some .boolean, 0, 12)
def zxm265 : zM := (⟨"StarTalesModel", "isName", "()Z"⟩, prog_14_method_70_code, 1, some .boolean, 0, 12)
def zxm266 : zM := (⟨"StarTalesModel", "isTwice", "(II)Z"⟩, prog_14_method_71_code, 4, some .boolean, 2, 12)
def zxm267 : zM := (⟨"StarTalesModel", "matched", "(III)I"⟩, prog_14_method_78_code, 4, some .int, 3, 12)
def zxm268 : zM := (⟨"StarTalesModel", "ways", "(I)I"⟩, prog_14_method_76_code, 6, some .int, 1, 12)
def zxm269 : zM := (⟨"StarTalesModel", "laysNames", "()V"⟩, prog_14_method_74_code, 2, none, 0, 12)
def zxm270 : zM := (⟨"StarTalesModel", "canBe", "(II)Z"⟩, prog_14_method_75_code, 6, some .boolean, 2, 12)
def zxm271 : zM := (⟨"StarTalesModel", "where", "(I)I"⟩, prog_14_method_79_code, 5, some .int, 1, 12)
def zxm272 : zM := (⟨"StarTalesModel", "canBeTold", "(I)Z"⟩, prog_14_method_77_code, 2, some .boolean, 1, 12)
def zxm273 : zM := (⟨"StarTalesModel", "when", "(II)I"⟩, prog_14_method_80_code, 6, some .int, 2, 12)
def zxm274 : zM := (⟨"StarTalesModel", "alike", "(I)I"⟩, prog_14_method_87_code, 5, some .int, 1, 12)
def zxm275 : zM := (⟨"StarTalesModel", "laysPatches", "()V"⟩, prog_14_method_84_code, 2, none, 0, 12)
def zxm276 : zM := (⟨"StarTalesModel", "laysPatch", "(I)V"⟩, prog_14_method_83_code, 5, none, 1, 12)
def zxm277 : zM := (⟨"StarTalesModel", "partOf", "(II)I"⟩, prog_14_method_81_code, 3, some .int, 2, 12)
def zxm278 : zM := (⟨"StarTalesModel", "puts", "([III)V"⟩, prog_14_method_82_code, 4, none, 3, 12)
def zxm279 : zM := (⟨"StarTalesModel", "alikeFrom", "(II)I"⟩, prog_14_method_86_code, 4, some .int, 2, 12)
def zxm280 : zM := (⟨"StarTalesModel", "areAlike", "(II)Z"⟩, prog_14_method_85_code, 4, some .boolean, 2, 12)
def zxm281 : zM := (⟨"StarTalesModel", "known", "(II)I"⟩, prog_14_method_89_code, 7, some .int, 2, 12)
def zxm282 : zM := (⟨"StarTalesModel", "hasParts", "(II)Z"⟩, prog_14_method_88_code, 5, some .boolean, 2, 12)
def zxm283 : zM := (⟨"StarTalesModel", "named", "(II)I"⟩, prog_14_method_93_code, 5, some .int, 2, 12)
def zxm284 : zM := (⟨"StarTalesModel", "takesPlaces", "(I)Z"⟩, prog_14_method_90_code, 6, some .boolean, 1, 12)
def zxm285 : zM := (⟨"StarTalesModel", "leastOf", "(I)I"⟩, prog_14_method_92_code, 5, some .int, 1, 12)
def zxm286 : zM := (⟨"StarTalesModel", "tellsApart", "(I)Z"⟩, prog_14_method_91_code, 3, some .boolean, 1, 12)
def zxm287 : zM := (⟨"StarTalesModel", "sold", "(II)I"⟩, prog_14_method_94_code, 6, some .int, 2, 12)
def zxm288 : zM := (⟨"StarTalesModel", "byLaw", "(II)I"⟩, prog_14_method_51_code, 5, some .int, 2, 12)
def zxm289 : zM := (⟨"StarTalesModel", "steered", "(IIIZ)I"⟩, prog_14_method_102_code, 6, some .int, 4, 12)
def zxm290 : zM := (⟨"StarTalesModel", "steers", "(IIZ)V"⟩, prog_14_method_101_code, 4, none, 3, 12)
def zxm291 : zM := (⟨"StarTalesModel", "drawsClouds", "()V"⟩, prog_14_method_98_code, 2, none, 0, 12)
def zxm292 : zM := (⟨"StarTalesModel", "steersFrom", "(II)I"⟩, prog_14_method_100_code, 6, some .int, 2, 12)
def zxm293 : zM := (⟨"StarTalesModel", "sign", "(I)I"⟩, prog_14_method_99_code, 1, some .int, 1, 12)
def zxm294 : zM := (⟨"StarTalesModel", "passes", "()V"⟩, prog_14_method_97_code, 1, none, 0, 12)
def zxm295 : zM := (⟨"StarTalesModel", "walks", "()V"⟩, prog_14_method_96_code, 2, none, 0, 12)
def zxm296 : zM := (⟨"StarTalesModel", "held", "(II)I"⟩, prog_14_method_95_code, 2, some .int, 2, 12)
def zxm297 : zM := (⟨"StarTalesModel", "hours", "(I)I"⟩, prog_14_method_103_code, 3, some .int, 1, 12)
def zxm298 : zM := (⟨"StarTalesModel", "found", "()I"⟩, prog_14_method_104_code, 4, some .int, 0, 12)
def zxm299 : zM := (⟨"StarTalesModel", "begins", "()V"⟩, prog_14_method_8_code, 1, none, 0, 12)
def zxm300 : zM := (⟨"StarTalesModel", "copies", "([I[I)V"⟩, prog_14_method_7_code, 3, none, 2, 12)
def zxm301 : zM := (⟨"StarTalesModel", "again", "()V"⟩, prog_14_method_9_code, 1, none, 0, 12)
def zxm302 : zM := (⟨"StarTalesModel", "meeting", "(III)I"⟩, prog_14_method_107_code, 6, some .int, 3, 12)
def zxm303 : zM := (⟨"StarTalesModel", "sails", "(I[I)V"⟩, prog_14_method_106_code, 7, none, 2, 12)
def zxm304 : zM := (⟨"StarTalesModel", "goesTo", "(II)I"⟩, prog_14_method_105_code, 4, some .int, 2, 12)
def zxm305 : zM := (⟨"StarTalesModel", "fastest", "(IIIII)I"⟩, prog_14_method_109_code, 11, some .int, 5, 12)
def zxm306 : zM := (⟨"StarTalesModel", "comesBy", "(IIII)I"⟩, prog_14_method_108_code, 6, some .int, 4, 12)
def zxm307 : zM := (⟨"StarTalesModel", "byTwo", "(IIIII)I"⟩, prog_14_method_112_code, 7, some .int, 5, 12)
def zxm308 : zM := (⟨"StarTalesModel", "laysTwo", "(III)Z"⟩, prog_14_method_111_code, 8, some .boolean, 3, 12)
def zxm309 : zM := (⟨"StarTalesModel", "comesByTwo", "(IIIIII)Z"⟩, prog_14_method_110_code, 8, some .boolean, 6, 12)
def zxm310 : zM := (⟨"StarTalesModel", "both", "(III)I"⟩, prog_14_method_114_code, 4, some .int, 3, 12)
def zxm311 : zM := (⟨"StarTalesModel", "looksBoth", "(II)V"⟩, prog_14_method_113_code, 5, none, 2, 12)
def zxm312 : zM := (⟨"StarTalesModel", "hidden", "(III)I"⟩, prog_14_method_116_code, 8, some .int, 3, 12)
def zxm313 : zM := (⟨"StarTalesModel", "leastClouds", "(III)I"⟩, prog_14_method_115_code, 8, some .int, 3, 12)
def zxm314 : zM := (⟨"StarTalesModel", "log", "(II)I"⟩, prog_14_method_118_code, 6, some .int, 2, 12)
def zxm315 : zM := (⟨"StarTalesModel", "takesLog", "(I)Z"⟩, prog_14_method_117_code, 3, some .boolean, 1, 12)
def zxm316 : zM := (⟨"StarTalesModel", "over", "(II)I"⟩, prog_14_method_119_code, 5, some .int, 2, 12)
def zxm317 : zM := (⟨"StarTalesModel", "home", "(II)I"⟩, prog_14_method_120_code, 9, some .int, 2, 12)
def zxm318 : zM := (⟨"StarTalesModel", "seed", "(I)Z"⟩, prog_14_method_121_code, 2, some .boolean, 1, 12)
def zxm319 : zM := (⟨"StarTalesModel", "keep", "()I"⟩, prog_14_method_122_code, 1, some .int, 0, 12)
def zxm320 : zM := (⟨"StarTalesModel", "undo", "()Z"⟩, prog_14_method_123_code, 1, some .boolean, 0, 12)
def zxm321 : zM := (⟨"StarTalesModel", "check", "(I)I"⟩, prog_14_method_125_code, 3, some .int, 1, 12)
def zxm322 : zM := (⟨"StarTalesModel", "tapeNumber", "(I)I"⟩, prog_14_method_124_code, 4, some .int, 1, 12)
def zxm323 : zM := (⟨"StarTalesModel", "count", "(I)I"⟩, prog_14_method_127_code, 2, some .int, 1, 12)
def zxm324 : zM := (⟨"StarTalesModel", "landMany", "()I"⟩, prog_14_method_126_code, 3, some .int, 0, 12)
def zxMT0 : List zM := [zxm0, zxm1, zxm2, zxm3, zxm4, zxm5, zxm6, zxm7, zxm8, zxm9, zxm10, zxm11, zxm12, zxm13, zxm14, zxm15, zxm16, zxm17, zxm18, zxm19, zxm20, zxm21, zxm22, zxm23, zxm24, zxm25, zxm26, zxm27, zxm28, zxm29, zxm30, zxm31, zxm32, zxm33, zxm34, zxm35, zxm36, zxm37, zxm38, zxm39, zxm40, zxm41, zxm42, zxm43, zxm44, zxm45, zxm46, zxm47, zxm48, zxm49]
def zxMT1 : List zM := [zxm50, zxm51, zxm52, zxm53, zxm54, zxm55, zxm56, zxm57, zxm58, zxm59, zxm60, zxm61, zxm62, zxm63, zxm64, zxm65, zxm66, zxm67, zxm68, zxm69, zxm70, zxm71, zxm72, zxm73, zxm74, zxm75, zxm76, zxm77, zxm78, zxm79, zxm80, zxm81, zxm82, zxm83, zxm84, zxm85, zxm86, zxm87, zxm88, zxm89, zxm90, zxm91, zxm92, zxm93, zxm94, zxm95, zxm96, zxm97, zxm98, zxm99]
def zxMT2 : List zM := [zxm100, zxm101, zxm102, zxm103, zxm104, zxm105, zxm106, zxm107, zxm108, zxm109, zxm110, zxm111, zxm112, zxm113, zxm114, zxm115, zxm116, zxm117, zxm118, zxm119, zxm120, zxm121, zxm122, zxm123, zxm124, zxm125, zxm126, zxm127, zxm128, zxm129, zxm130, zxm131, zxm132, zxm133, zxm134, zxm135, zxm136, zxm137, zxm138, zxm139, zxm140, zxm141, zxm142, zxm143, zxm144, zxm145, zxm146, zxm147, zxm148, zxm149]
def zxMT3 : List zM := [zxm150, zxm151, zxm152, zxm153, zxm154, zxm155, zxm156, zxm157, zxm158, zxm159, zxm160, zxm161, zxm162, zxm163, zxm164, zxm165, zxm166, zxm167, zxm168, zxm169, zxm170, zxm171, zxm172, zxm173, zxm174, zxm175, zxm176, zxm177, zxm178, zxm179, zxm180, zxm181, zxm182, zxm183, zxm184, zxm185, zxm186, zxm187, zxm188, zxm189, zxm190, zxm191, zxm192, zxm193, zxm194, zxm195, zxm196, zxm197, zxm198, zxm199]
def zxMT4 : List zM := [zxm200, zxm201, zxm202, zxm203, zxm204, zxm205, zxm206, zxm207, zxm208, zxm209, zxm210, zxm211, zxm212, zxm213, zxm214, zxm215, zxm216, zxm217, zxm218, zxm219, zxm220, zxm221, zxm222, zxm223, zxm224, zxm225, zxm226, zxm227, zxm228, zxm229, zxm230, zxm231, zxm232, zxm233, zxm234, zxm235, zxm236, zxm237, zxm238, zxm239, zxm240, zxm241, zxm242, zxm243, zxm244, zxm245, zxm246, zxm247, zxm248, zxm249]
def zxMT5 : List zM := [zxm250, zxm251, zxm252, zxm253, zxm254, zxm255, zxm256, zxm257, zxm258, zxm259, zxm260, zxm261, zxm262, zxm263, zxm264, zxm265, zxm266, zxm267, zxm268, zxm269, zxm270, zxm271, zxm272, zxm273, zxm274, zxm275, zxm276, zxm277, zxm278, zxm279, zxm280, zxm281, zxm282, zxm283, zxm284, zxm285, zxm286, zxm287, zxm288, zxm289, zxm290, zxm291, zxm292, zxm293, zxm294, zxm295, zxm296, zxm297, zxm298, zxm299]
def zxMT6 : List zM := [zxm300, zxm301, zxm302, zxm303, zxm304, zxm305, zxm306, zxm307, zxm308, zxm309, zxm310, zxm311, zxm312, zxm313, zxm314, zxm315, zxm316, zxm317, zxm318, zxm319, zxm320, zxm321, zxm322, zxm323, zxm324]
def z_MT : List zM := (zxMT0 ++ (zxMT1 ++ (zxMT2 ++ (zxMT3 ++ (zxMT4 ++ (zxMT5 ++ zxMT6))))))
abbrev z_TB : List Cond := lw_tbl.filter z_gw
theorem zxin1 : ∀ v ∈ tables_1_1, v ∈ lw_tbl := fun v h => List.mem_append_right _ (show v ∈ (tables_1_1 ++ (tables_1_2 ++ (tables_1_3 ++ (tables_1_4 ++ (tables_1_5 ++ (tables_1_6 ++ (tables_1_7 ++ (tables_1_8 ++ tables_1_9)))))))) from List.mem_append_left _ h)
theorem zxin2 : ∀ v ∈ tables_1_2, v ∈ lw_tbl := fun v h => List.mem_append_right _ (show v ∈ (tables_1_1 ++ (tables_1_2 ++ (tables_1_3 ++ (tables_1_4 ++ (tables_1_5 ++ (tables_1_6 ++ (tables_1_7 ++ (tables_1_8 ++ tables_1_9)))))))) from List.mem_append_right _ (List.mem_append_left _ h))
theorem zxin3 : ∀ v ∈ tables_1_3, v ∈ lw_tbl := fun v h => List.mem_append_right _ (show v ∈ (tables_1_1 ++ (tables_1_2 ++ (tables_1_3 ++ (tables_1_4 ++ (tables_1_5 ++ (tables_1_6 ++ (tables_1_7 ++ (tables_1_8 ++ tables_1_9)))))))) from List.mem_append_right _ (List.mem_append_right _ (List.mem_append_left _ h)))
theorem zxin4 : ∀ v ∈ tables_1_4, v ∈ lw_tbl := fun v h => List.mem_append_right _ (show v ∈ (tables_1_1 ++ (tables_1_2 ++ (tables_1_3 ++ (tables_1_4 ++ (tables_1_5 ++ (tables_1_6 ++ (tables_1_7 ++ (tables_1_8 ++ tables_1_9)))))))) from List.mem_append_right _ (List.mem_append_right _ (List.mem_append_right _ (List.mem_append_left _ h))))
theorem zxin5 : ∀ v ∈ tables_1_5, v ∈ lw_tbl := fun v h => List.mem_append_right _ (show v ∈ (tables_1_1 ++ (tables_1_2 ++ (tables_1_3 ++ (tables_1_4 ++ (tables_1_5 ++ (tables_1_6 ++ (tables_1_7 ++ (tables_1_8 ++ tables_1_9)))))))) from List.mem_append_right _ (List.mem_append_right _ (List.mem_append_right _ (List.mem_append_right _ (List.mem_append_left _ h)))))
theorem zxin6 : ∀ v ∈ tables_1_6, v ∈ lw_tbl := fun v h => List.mem_append_right _ (show v ∈ (tables_1_1 ++ (tables_1_2 ++ (tables_1_3 ++ (tables_1_4 ++ (tables_1_5 ++ (tables_1_6 ++ (tables_1_7 ++ (tables_1_8 ++ tables_1_9)))))))) from List.mem_append_right _ (List.mem_append_right _ (List.mem_append_right _ (List.mem_append_right _ (List.mem_append_right _ (List.mem_append_left _ h))))))
theorem zxin7 : ∀ v ∈ tables_1_7, v ∈ lw_tbl := fun v h => List.mem_append_right _ (show v ∈ (tables_1_1 ++ (tables_1_2 ++ (tables_1_3 ++ (tables_1_4 ++ (tables_1_5 ++ (tables_1_6 ++ (tables_1_7 ++ (tables_1_8 ++ tables_1_9)))))))) from List.mem_append_right _ (List.mem_append_right _ (List.mem_append_right _ (List.mem_append_right _ (List.mem_append_right _ (List.mem_append_right _ (List.mem_append_left _ h)))))))
theorem zxin8 : ∀ v ∈ tables_1_8, v ∈ lw_tbl := fun v h => List.mem_append_right _ (show v ∈ (tables_1_1 ++ (tables_1_2 ++ (tables_1_3 ++ (tables_1_4 ++ (tables_1_5 ++ (tables_1_6 ++ (tables_1_7 ++ (tables_1_8 ++ tables_1_9)))))))) from List.mem_append_right _ (List.mem_append_right _ (List.mem_append_right _ (List.mem_append_right _ (List.mem_append_right _ (List.mem_append_right _ (List.mem_append_right _ (List.mem_append_left _ h))))))))
theorem zxin9 : ∀ v ∈ tables_1_9, v ∈ lw_tbl := fun v h => List.mem_append_right _ (show v ∈ (tables_1_1 ++ (tables_1_2 ++ (tables_1_3 ++ (tables_1_4 ++ (tables_1_5 ++ (tables_1_6 ++ (tables_1_7 ++ (tables_1_8 ++ tables_1_9)))))))) from List.mem_append_right _ (List.mem_append_right _ (List.mem_append_right _ (List.mem_append_right _ (List.mem_append_right _ (List.mem_append_right _ (List.mem_append_right _ (List.mem_append_right _ (h)))))))))
theorem zxp0 : plainFor zxm0.1 = true := by decide +kernel
set_option maxRecDepth 20000 in
theorem zxt0 : z_MT[0]? = some zxm0 := rfl
set_option maxRecDepth 20000 in
theorem zxh0 : zk_ok1 lw_tbl zxm0 := ⟨List.mem_filter.mpr ⟨zxin1 _ (List.mem_of_getElem? (i := 27) rfl), rfl⟩, List.mem_filter.mpr ⟨List.mem_of_getElem? (i := 115) (by decide +kernel), rfl⟩, by decide +kernel, by decide +kernel⟩
theorem zxp1 : plainFor zxm1.1 = true := by decide +kernel
set_option maxRecDepth 20000 in
theorem zxt1 : z_MT[1]? = some zxm1 := rfl
set_option maxRecDepth 20000 in
theorem zxh1 : zk_ok1 lw_tbl zxm1 := ⟨List.mem_filter.mpr ⟨zxin1 _ (List.mem_of_getElem? (i := 35) rfl), rfl⟩, List.mem_filter.mpr ⟨List.mem_of_getElem? (i := 116) (by decide +kernel), rfl⟩, by decide +kernel, by decide +kernel⟩
theorem zxp2 : plainFor zxm2.1 = true := by decide +kernel
set_option maxRecDepth 20000 in
theorem zxt2 : z_MT[2]? = some zxm2 := rfl
set_option maxRecDepth 20000 in
theorem zxh2 : zk_ok1 lw_tbl zxm2 := ⟨List.mem_filter.mpr ⟨zxin1 _ (List.mem_of_getElem? (i := 104) rfl), rfl⟩, List.mem_filter.mpr ⟨List.mem_of_getElem? (i := 117) (by decide +kernel), rfl⟩, by decide +kernel, by decide +kernel⟩
theorem zxp3 : plainFor zxm3.1 = true := by decide +kernel
set_option maxRecDepth 20000 in
theorem zxt3 : z_MT[3]? = some zxm3 := rfl
set_option maxRecDepth 20000 in
theorem zxh3 : zk_ok1 lw_tbl zxm3 := ⟨List.mem_filter.mpr ⟨zxin1 _ (List.mem_of_getElem? (i := 122) rfl), rfl⟩, List.mem_filter.mpr ⟨List.mem_of_getElem? (i := 118) (by decide +kernel), rfl⟩, by decide +kernel, by decide +kernel⟩
theorem zxp4 : plainFor zxm4.1 = true := by decide +kernel
set_option maxRecDepth 20000 in
theorem zxt4 : z_MT[4]? = some zxm4 := rfl
set_option maxRecDepth 20000 in
theorem zxh4 : zk_ok1 lw_tbl zxm4 := ⟨List.mem_filter.mpr ⟨zxin1 _ (List.mem_of_getElem? (i := 137) rfl), rfl⟩, List.mem_filter.mpr ⟨List.mem_of_getElem? (i := 119) (by decide +kernel), rfl⟩, by decide +kernel, by decide +kernel⟩
theorem zxp5 : plainFor zxm5.1 = true := by decide +kernel
set_option maxRecDepth 20000 in
theorem zxt5 : z_MT[5]? = some zxm5 := rfl
set_option maxRecDepth 20000 in
theorem zxh5 : zk_ok1 lw_tbl zxm5 := ⟨List.mem_filter.mpr ⟨zxin1 _ (List.mem_of_getElem? (i := 143) rfl), rfl⟩, List.mem_filter.mpr ⟨List.mem_of_getElem? (i := 120) (by decide +kernel), rfl⟩, by decide +kernel, by decide +kernel⟩
theorem zxp6 : plainFor zxm6.1 = true := by decide +kernel
set_option maxRecDepth 20000 in
theorem zxt6 : z_MT[6]? = some zxm6 := rfl
set_option maxRecDepth 20000 in
theorem zxh6 : zk_ok1 lw_tbl zxm6 := ⟨List.mem_filter.mpr ⟨zxin1 _ (List.mem_of_getElem? (i := 147) rfl), rfl⟩, List.mem_filter.mpr ⟨List.mem_of_getElem? (i := 120) (by decide +kernel), rfl⟩, by decide +kernel, by decide +kernel⟩
theorem zxp7 : plainFor zxm7.1 = true := by decide +kernel
set_option maxRecDepth 20000 in
theorem zxt7 : z_MT[7]? = some zxm7 := rfl
set_option maxRecDepth 20000 in
theorem zxh7 : zk_ok1 lw_tbl zxm7 := ⟨List.mem_filter.mpr ⟨zxin1 _ (List.mem_of_getElem? (i := 210) rfl), rfl⟩, List.mem_filter.mpr ⟨List.mem_of_getElem? (i := 121) (by decide +kernel), rfl⟩, by decide +kernel, by decide +kernel⟩
theorem zxp8 : plainFor zxm8.1 = true := by decide +kernel
set_option maxRecDepth 20000 in
theorem zxt8 : z_MT[8]? = some zxm8 := rfl
set_option maxRecDepth 20000 in
theorem zxh8 : zk_ok1 lw_tbl zxm8 := ⟨List.mem_filter.mpr ⟨zxin1 _ (List.mem_of_getElem? (i := 232) rfl), rfl⟩, List.mem_filter.mpr ⟨List.mem_of_getElem? (i := 122) (by decide +kernel), rfl⟩, by decide +kernel, by decide +kernel⟩
theorem zxp9 : plainFor zxm9.1 = true := by decide +kernel
set_option maxRecDepth 20000 in
theorem zxt9 : z_MT[9]? = some zxm9 := rfl
set_option maxRecDepth 20000 in
theorem zxh9 : zk_ok1 lw_tbl zxm9 := ⟨List.mem_filter.mpr ⟨zxin2 _ (List.mem_of_getElem? (i := 12) rfl), rfl⟩, List.mem_filter.mpr ⟨List.mem_of_getElem? (i := 123) (by decide +kernel), rfl⟩, by decide +kernel, by decide +kernel⟩
theorem zxp10 : plainFor zxm10.1 = true := by decide +kernel
set_option maxRecDepth 20000 in
theorem zxt10 : z_MT[10]? = some zxm10 := rfl
set_option maxRecDepth 20000 in
theorem zxh10 : zk_ok1 lw_tbl zxm10 := ⟨List.mem_filter.mpr ⟨zxin2 _ (List.mem_of_getElem? (i := 59) rfl), rfl⟩, List.mem_filter.mpr ⟨List.mem_of_getElem? (i := 124) (by decide +kernel), rfl⟩, by decide +kernel, by decide +kernel⟩
theorem zxp11 : plainFor zxm11.1 = true := by decide +kernel
set_option maxRecDepth 20000 in
theorem zxt11 : z_MT[11]? = some zxm11 := rfl
set_option maxRecDepth 20000 in
theorem zxh11 : zk_ok1 lw_tbl zxm11 := ⟨List.mem_filter.mpr ⟨zxin2 _ (List.mem_of_getElem? (i := 88) rfl), rfl⟩, List.mem_filter.mpr ⟨List.mem_of_getElem? (i := 125) (by decide +kernel), rfl⟩, by decide +kernel, by decide +kernel⟩
theorem zxp12 : plainFor zxm12.1 = true := by decide +kernel
set_option maxRecDepth 20000 in
theorem zxt12 : z_MT[12]? = some zxm12 := rfl
set_option maxRecDepth 20000 in
theorem zxh12 : zk_ok1 lw_tbl zxm12 := ⟨List.mem_filter.mpr ⟨zxin2 _ (List.mem_of_getElem? (i := 144) rfl), rfl⟩, List.mem_filter.mpr ⟨List.mem_of_getElem? (i := 126) (by decide +kernel), rfl⟩, by decide +kernel, by decide +kernel⟩
theorem zxp13 : plainFor zxm13.1 = true := by decide +kernel
set_option maxRecDepth 20000 in
theorem zxt13 : z_MT[13]? = some zxm13 := rfl
set_option maxRecDepth 20000 in
theorem zxh13 : zk_ok1 lw_tbl zxm13 := ⟨List.mem_filter.mpr ⟨zxin2 _ (List.mem_of_getElem? (i := 173) rfl), rfl⟩, List.mem_filter.mpr ⟨List.mem_of_getElem? (i := 127) (by decide +kernel), rfl⟩, by decide +kernel, by decide +kernel⟩
theorem zxp14 : plainFor zxm14.1 = true := by decide +kernel
set_option maxRecDepth 20000 in
theorem zxt14 : z_MT[14]? = some zxm14 := rfl
set_option maxRecDepth 20000 in
theorem zxh14 : zk_ok1 lw_tbl zxm14 := ⟨List.mem_filter.mpr ⟨zxin3 _ (List.mem_of_getElem? (i := 19) rfl), rfl⟩, List.mem_filter.mpr ⟨List.mem_of_getElem? (i := 115) (by decide +kernel), rfl⟩, by decide +kernel, by decide +kernel⟩
theorem zxp15 : plainFor zxm15.1 = true := by decide +kernel
set_option maxRecDepth 20000 in
theorem zxt15 : z_MT[15]? = some zxm15 := rfl
set_option maxRecDepth 20000 in
theorem zxh15 : zk_ok1 lw_tbl zxm15 := ⟨List.mem_filter.mpr ⟨zxin3 _ (List.mem_of_getElem? (i := 22) rfl), rfl⟩, List.mem_filter.mpr ⟨List.mem_of_getElem? (i := 115) (by decide +kernel), rfl⟩, by decide +kernel, by decide +kernel⟩
theorem zxp16 : plainFor zxm16.1 = true := by decide +kernel
set_option maxRecDepth 20000 in
theorem zxt16 : z_MT[16]? = some zxm16 := rfl
set_option maxRecDepth 20000 in
theorem zxh16 : zk_ok1 lw_tbl zxm16 := ⟨List.mem_filter.mpr ⟨zxin3 _ (List.mem_of_getElem? (i := 25) rfl), rfl⟩, List.mem_filter.mpr ⟨List.mem_of_getElem? (i := 115) (by decide +kernel), rfl⟩, by decide +kernel, by decide +kernel⟩
theorem zxp17 : plainFor zxm17.1 = true := by decide +kernel
set_option maxRecDepth 20000 in
theorem zxt17 : z_MT[17]? = some zxm17 := rfl
set_option maxRecDepth 20000 in
theorem zxh17 : zk_ok1 lw_tbl zxm17 := ⟨List.mem_filter.mpr ⟨zxin3 _ (List.mem_of_getElem? (i := 29) rfl), rfl⟩, List.mem_filter.mpr ⟨List.mem_of_getElem? (i := 115) (by decide +kernel), rfl⟩, by decide +kernel, by decide +kernel⟩
theorem zxp18 : plainFor zxm18.1 = true := by decide +kernel
set_option maxRecDepth 20000 in
theorem zxt18 : z_MT[18]? = some zxm18 := rfl
set_option maxRecDepth 20000 in
theorem zxh18 : zk_ok1 lw_tbl zxm18 := ⟨List.mem_filter.mpr ⟨zxin3 _ (List.mem_of_getElem? (i := 33) rfl), rfl⟩, List.mem_filter.mpr ⟨List.mem_of_getElem? (i := 116) (by decide +kernel), rfl⟩, by decide +kernel, by decide +kernel⟩
theorem zxp19 : plainFor zxm19.1 = true := by decide +kernel
set_option maxRecDepth 20000 in
theorem zxt19 : z_MT[19]? = some zxm19 := rfl
set_option maxRecDepth 20000 in
theorem zxh19 : zk_ok1 lw_tbl zxm19 := ⟨List.mem_filter.mpr ⟨zxin3 _ (List.mem_of_getElem? (i := 37) rfl), rfl⟩, List.mem_filter.mpr ⟨List.mem_of_getElem? (i := 115) (by decide +kernel), rfl⟩, by decide +kernel, by decide +kernel⟩
theorem zxp20 : plainFor zxm20.1 = true := by decide +kernel
set_option maxRecDepth 20000 in
theorem zxt20 : z_MT[20]? = some zxm20 := rfl
set_option maxRecDepth 20000 in
theorem zxh20 : zk_ok1 lw_tbl zxm20 := ⟨List.mem_filter.mpr ⟨zxin3 _ (List.mem_of_getElem? (i := 41) rfl), rfl⟩, List.mem_filter.mpr ⟨List.mem_of_getElem? (i := 115) (by decide +kernel), rfl⟩, by decide +kernel, by decide +kernel⟩
theorem zxp21 : plainFor zxm21.1 = true := by decide +kernel
set_option maxRecDepth 20000 in
theorem zxt21 : z_MT[21]? = some zxm21 := rfl
set_option maxRecDepth 20000 in
theorem zxh21 : zk_ok1 lw_tbl zxm21 := ⟨List.mem_filter.mpr ⟨zxin3 _ (List.mem_of_getElem? (i := 45) rfl), rfl⟩, List.mem_filter.mpr ⟨List.mem_of_getElem? (i := 115) (by decide +kernel), rfl⟩, by decide +kernel, by decide +kernel⟩
theorem zxp22 : plainFor zxm22.1 = true := by decide +kernel
set_option maxRecDepth 20000 in
theorem zxt22 : z_MT[22]? = some zxm22 := rfl
set_option maxRecDepth 20000 in
theorem zxh22 : zk_ok1 lw_tbl zxm22 := ⟨List.mem_filter.mpr ⟨zxin3 _ (List.mem_of_getElem? (i := 50) rfl), rfl⟩, List.mem_filter.mpr ⟨List.mem_of_getElem? (i := 115) (by decide +kernel), rfl⟩, by decide +kernel, by decide +kernel⟩
theorem zxp23 : plainFor zxm23.1 = true := by decide +kernel
set_option maxRecDepth 20000 in
theorem zxt23 : z_MT[23]? = some zxm23 := rfl
set_option maxRecDepth 20000 in
theorem zxh23 : zk_ok1 lw_tbl zxm23 := ⟨List.mem_filter.mpr ⟨zxin3 _ (List.mem_of_getElem? (i := 54) rfl), rfl⟩, List.mem_filter.mpr ⟨List.mem_of_getElem? (i := 115) (by decide +kernel), rfl⟩, by decide +kernel, by decide +kernel⟩
theorem zxp24 : plainFor zxm24.1 = true := by decide +kernel
set_option maxRecDepth 20000 in
theorem zxt24 : z_MT[24]? = some zxm24 := rfl
set_option maxRecDepth 20000 in
theorem zxh24 : zk_ok1 lw_tbl zxm24 := ⟨List.mem_filter.mpr ⟨zxin3 _ (List.mem_of_getElem? (i := 57) rfl), rfl⟩, List.mem_filter.mpr ⟨List.mem_of_getElem? (i := 115) (by decide +kernel), rfl⟩, by decide +kernel, by decide +kernel⟩
theorem zxp25 : plainFor zxm25.1 = true := by decide +kernel
set_option maxRecDepth 20000 in
theorem zxt25 : z_MT[25]? = some zxm25 := rfl
set_option maxRecDepth 20000 in
theorem zxh25 : zk_ok1 lw_tbl zxm25 := ⟨List.mem_filter.mpr ⟨zxin3 _ (List.mem_of_getElem? (i := 61) rfl), rfl⟩, List.mem_filter.mpr ⟨List.mem_of_getElem? (i := 117) (by decide +kernel), rfl⟩, by decide +kernel, by decide +kernel⟩
theorem zxp26 : plainFor zxm26.1 = true := by decide +kernel
set_option maxRecDepth 20000 in
theorem zxt26 : z_MT[26]? = some zxm26 := rfl
set_option maxRecDepth 20000 in
theorem zxh26 : zk_ok1 lw_tbl zxm26 := ⟨List.mem_filter.mpr ⟨zxin3 _ (List.mem_of_getElem? (i := 65) rfl), rfl⟩, List.mem_filter.mpr ⟨List.mem_of_getElem? (i := 117) (by decide +kernel), rfl⟩, by decide +kernel, by decide +kernel⟩
theorem zxp27 : plainFor zxm27.1 = true := by decide +kernel
set_option maxRecDepth 20000 in
theorem zxt27 : z_MT[27]? = some zxm27 := rfl
set_option maxRecDepth 20000 in
theorem zxh27 : zk_ok1 lw_tbl zxm27 := ⟨List.mem_filter.mpr ⟨zxin3 _ (List.mem_of_getElem? (i := 69) rfl), rfl⟩, List.mem_filter.mpr ⟨List.mem_of_getElem? (i := 117) (by decide +kernel), rfl⟩, by decide +kernel, by decide +kernel⟩
theorem zxp28 : plainFor zxm28.1 = true := by decide +kernel
set_option maxRecDepth 20000 in
theorem zxt28 : z_MT[28]? = some zxm28 := rfl
set_option maxRecDepth 20000 in
theorem zxh28 : zk_ok1 lw_tbl zxm28 := ⟨List.mem_filter.mpr ⟨zxin3 _ (List.mem_of_getElem? (i := 73) rfl), rfl⟩, List.mem_filter.mpr ⟨List.mem_of_getElem? (i := 115) (by decide +kernel), rfl⟩, by decide +kernel, by decide +kernel⟩
theorem zxp29 : plainFor zxm29.1 = true := by decide +kernel
set_option maxRecDepth 20000 in
theorem zxt29 : z_MT[29]? = some zxm29 := rfl
set_option maxRecDepth 20000 in
theorem zxh29 : zk_ok1 lw_tbl zxm29 := ⟨List.mem_filter.mpr ⟨zxin3 _ (List.mem_of_getElem? (i := 77) rfl), rfl⟩, List.mem_filter.mpr ⟨List.mem_of_getElem? (i := 117) (by decide +kernel), rfl⟩, by decide +kernel, by decide +kernel⟩
theorem zxp30 : plainFor zxm30.1 = true := by decide +kernel
set_option maxRecDepth 20000 in
theorem zxt30 : z_MT[30]? = some zxm30 := rfl
set_option maxRecDepth 20000 in
theorem zxh30 : zk_ok1 lw_tbl zxm30 := ⟨List.mem_filter.mpr ⟨zxin3 _ (List.mem_of_getElem? (i := 80) rfl), rfl⟩, List.mem_filter.mpr ⟨List.mem_of_getElem? (i := 115) (by decide +kernel), rfl⟩, by decide +kernel, by decide +kernel⟩
theorem zxp31 : plainFor zxm31.1 = true := by decide +kernel
set_option maxRecDepth 20000 in
theorem zxt31 : z_MT[31]? = some zxm31 := rfl
set_option maxRecDepth 20000 in
theorem zxh31 : zk_ok1 lw_tbl zxm31 := ⟨List.mem_filter.mpr ⟨zxin3 _ (List.mem_of_getElem? (i := 83) rfl), rfl⟩, List.mem_filter.mpr ⟨List.mem_of_getElem? (i := 115) (by decide +kernel), rfl⟩, by decide +kernel, by decide +kernel⟩
theorem zxp32 : plainFor zxm32.1 = true := by decide +kernel
set_option maxRecDepth 20000 in
theorem zxt32 : z_MT[32]? = some zxm32 := rfl
set_option maxRecDepth 20000 in
theorem zxh32 : zk_ok1 lw_tbl zxm32 := ⟨List.mem_filter.mpr ⟨zxin3 _ (List.mem_of_getElem? (i := 87) rfl), rfl⟩, List.mem_filter.mpr ⟨List.mem_of_getElem? (i := 115) (by decide +kernel), rfl⟩, by decide +kernel, by decide +kernel⟩
theorem zxp33 : plainFor zxm33.1 = true := by decide +kernel
set_option maxRecDepth 20000 in
theorem zxt33 : z_MT[33]? = some zxm33 := rfl
set_option maxRecDepth 20000 in
theorem zxh33 : zk_ok1 lw_tbl zxm33 := ⟨List.mem_filter.mpr ⟨zxin3 _ (List.mem_of_getElem? (i := 91) rfl), rfl⟩, List.mem_filter.mpr ⟨List.mem_of_getElem? (i := 118) (by decide +kernel), rfl⟩, by decide +kernel, by decide +kernel⟩
theorem zxp34 : plainFor zxm34.1 = true := by decide +kernel
set_option maxRecDepth 20000 in
theorem zxt34 : z_MT[34]? = some zxm34 := rfl
set_option maxRecDepth 20000 in
theorem zxh34 : zk_ok1 lw_tbl zxm34 := ⟨List.mem_filter.mpr ⟨zxin3 _ (List.mem_of_getElem? (i := 95) rfl), rfl⟩, List.mem_filter.mpr ⟨List.mem_of_getElem? (i := 115) (by decide +kernel), rfl⟩, by decide +kernel, by decide +kernel⟩
theorem zxp35 : plainFor zxm35.1 = true := by decide +kernel
set_option maxRecDepth 20000 in
theorem zxt35 : z_MT[35]? = some zxm35 := rfl
set_option maxRecDepth 20000 in
theorem zxh35 : zk_ok1 lw_tbl zxm35 := ⟨List.mem_filter.mpr ⟨zxin3 _ (List.mem_of_getElem? (i := 99) rfl), rfl⟩, List.mem_filter.mpr ⟨List.mem_of_getElem? (i := 118) (by decide +kernel), rfl⟩, by decide +kernel, by decide +kernel⟩
theorem zxp36 : plainFor zxm36.1 = true := by decide +kernel
set_option maxRecDepth 20000 in
theorem zxt36 : z_MT[36]? = some zxm36 := rfl
set_option maxRecDepth 20000 in
theorem zxh36 : zk_ok1 lw_tbl zxm36 := ⟨List.mem_filter.mpr ⟨zxin3 _ (List.mem_of_getElem? (i := 103) rfl), rfl⟩, List.mem_filter.mpr ⟨List.mem_of_getElem? (i := 121) (by decide +kernel), rfl⟩, by decide +kernel, by decide +kernel⟩
theorem zxp37 : plainFor zxm37.1 = true := by decide +kernel
set_option maxRecDepth 20000 in
theorem zxt37 : z_MT[37]? = some zxm37 := rfl
set_option maxRecDepth 20000 in
theorem zxh37 : zk_ok1 lw_tbl zxm37 := ⟨List.mem_filter.mpr ⟨zxin3 _ (List.mem_of_getElem? (i := 106) rfl), rfl⟩, List.mem_filter.mpr ⟨List.mem_of_getElem? (i := 129) (by decide +kernel), rfl⟩, by decide +kernel, by decide +kernel⟩
theorem zxp38 : plainFor zxm38.1 = true := by decide +kernel
set_option maxRecDepth 20000 in
theorem zxt38 : z_MT[38]? = some zxm38 := rfl
set_option maxRecDepth 20000 in
theorem zxh38 : zk_ok1 lw_tbl zxm38 := ⟨List.mem_filter.mpr ⟨zxin3 _ (List.mem_of_getElem? (i := 110) rfl), rfl⟩, List.mem_filter.mpr ⟨List.mem_of_getElem? (i := 119) (by decide +kernel), rfl⟩, by decide +kernel, by decide +kernel⟩
theorem zxp39 : plainFor zxm39.1 = true := by decide +kernel
set_option maxRecDepth 20000 in
theorem zxt39 : z_MT[39]? = some zxm39 := rfl
set_option maxRecDepth 20000 in
theorem zxh39 : zk_ok1 lw_tbl zxm39 := ⟨List.mem_filter.mpr ⟨zxin3 _ (List.mem_of_getElem? (i := 114) rfl), rfl⟩, List.mem_filter.mpr ⟨List.mem_of_getElem? (i := 121) (by decide +kernel), rfl⟩, by decide +kernel, by decide +kernel⟩
theorem zxp40 : plainFor zxm40.1 = true := by decide +kernel
set_option maxRecDepth 20000 in
theorem zxt40 : z_MT[40]? = some zxm40 := rfl
set_option maxRecDepth 20000 in
theorem zxh40 : zk_ok1 lw_tbl zxm40 := ⟨List.mem_filter.mpr ⟨zxin3 _ (List.mem_of_getElem? (i := 118) rfl), rfl⟩, List.mem_filter.mpr ⟨List.mem_of_getElem? (i := 121) (by decide +kernel), rfl⟩, by decide +kernel, by decide +kernel⟩
theorem zxp41 : plainFor zxm41.1 = true := by decide +kernel
set_option maxRecDepth 20000 in
theorem zxt41 : z_MT[41]? = some zxm41 := rfl
set_option maxRecDepth 20000 in
theorem zxh41 : zk_ok1 lw_tbl zxm41 := ⟨List.mem_filter.mpr ⟨zxin3 _ (List.mem_of_getElem? (i := 122) rfl), rfl⟩, List.mem_filter.mpr ⟨List.mem_of_getElem? (i := 121) (by decide +kernel), rfl⟩, by decide +kernel, by decide +kernel⟩
theorem zxp42 : plainFor zxm42.1 = true := by decide +kernel
set_option maxRecDepth 20000 in
theorem zxt42 : z_MT[42]? = some zxm42 := rfl
set_option maxRecDepth 20000 in
theorem zxh42 : zk_ok1 lw_tbl zxm42 := ⟨List.mem_filter.mpr ⟨zxin3 _ (List.mem_of_getElem? (i := 125) rfl), rfl⟩, List.mem_filter.mpr ⟨List.mem_of_getElem? (i := 115) (by decide +kernel), rfl⟩, by decide +kernel, by decide +kernel⟩
theorem zxp43 : plainFor zxm43.1 = true := by decide +kernel
set_option maxRecDepth 20000 in
theorem zxt43 : z_MT[43]? = some zxm43 := rfl
set_option maxRecDepth 20000 in
theorem zxh43 : zk_ok1 lw_tbl zxm43 := ⟨List.mem_filter.mpr ⟨zxin3 _ (List.mem_of_getElem? (i := 129) rfl), rfl⟩, List.mem_filter.mpr ⟨List.mem_of_getElem? (i := 121) (by decide +kernel), rfl⟩, by decide +kernel, by decide +kernel⟩
theorem zxp44 : plainFor zxm44.1 = true := by decide +kernel
set_option maxRecDepth 20000 in
theorem zxt44 : z_MT[44]? = some zxm44 := rfl
set_option maxRecDepth 20000 in
theorem zxh44 : zk_ok1 lw_tbl zxm44 := ⟨List.mem_filter.mpr ⟨zxin3 _ (List.mem_of_getElem? (i := 133) rfl), rfl⟩, List.mem_filter.mpr ⟨List.mem_of_getElem? (i := 121) (by decide +kernel), rfl⟩, by decide +kernel, by decide +kernel⟩
theorem zxp45 : plainFor zxm45.1 = true := by decide +kernel
set_option maxRecDepth 20000 in
theorem zxt45 : z_MT[45]? = some zxm45 := rfl
set_option maxRecDepth 20000 in
theorem zxh45 : zk_ok1 lw_tbl zxm45 := ⟨List.mem_filter.mpr ⟨zxin3 _ (List.mem_of_getElem? (i := 137) rfl), rfl⟩, List.mem_filter.mpr ⟨List.mem_of_getElem? (i := 121) (by decide +kernel), rfl⟩, by decide +kernel, by decide +kernel⟩
theorem zxp46 : plainFor zxm46.1 = true := by decide +kernel
set_option maxRecDepth 20000 in
theorem zxt46 : z_MT[46]? = some zxm46 := rfl
set_option maxRecDepth 20000 in
theorem zxh46 : zk_ok1 lw_tbl zxm46 := ⟨List.mem_filter.mpr ⟨zxin3 _ (List.mem_of_getElem? (i := 141) rfl), rfl⟩, List.mem_filter.mpr ⟨List.mem_of_getElem? (i := 121) (by decide +kernel), rfl⟩, by decide +kernel, by decide +kernel⟩
theorem zxp47 : plainFor zxm47.1 = true := by decide +kernel
set_option maxRecDepth 20000 in
theorem zxt47 : z_MT[47]? = some zxm47 := rfl
set_option maxRecDepth 20000 in
theorem zxh47 : zk_ok1 lw_tbl zxm47 := ⟨List.mem_filter.mpr ⟨zxin3 _ (List.mem_of_getElem? (i := 144) rfl), rfl⟩, List.mem_filter.mpr ⟨List.mem_of_getElem? (i := 121) (by decide +kernel), rfl⟩, by decide +kernel, by decide +kernel⟩
theorem zxp48 : plainFor zxm48.1 = true := by decide +kernel
set_option maxRecDepth 20000 in
theorem zxt48 : z_MT[48]? = some zxm48 := rfl
set_option maxRecDepth 20000 in
theorem zxh48 : zk_ok1 lw_tbl zxm48 := ⟨List.mem_filter.mpr ⟨zxin3 _ (List.mem_of_getElem? (i := 148) rfl), rfl⟩, List.mem_filter.mpr ⟨List.mem_of_getElem? (i := 121) (by decide +kernel), rfl⟩, by decide +kernel, by decide +kernel⟩
theorem zxp49 : plainFor zxm49.1 = true := by decide +kernel
set_option maxRecDepth 20000 in
theorem zxt49 : z_MT[49]? = some zxm49 := rfl
set_option maxRecDepth 20000 in
theorem zxh49 : zk_ok1 lw_tbl zxm49 := ⟨List.mem_filter.mpr ⟨zxin3 _ (List.mem_of_getElem? (i := 152) rfl), rfl⟩, List.mem_filter.mpr ⟨List.mem_of_getElem? (i := 119) (by decide +kernel), rfl⟩, by decide +kernel, by decide +kernel⟩
theorem zxp50 : plainFor zxm50.1 = true := by decide +kernel
set_option maxRecDepth 20000 in
theorem zxt50 : z_MT[50]? = some zxm50 := rfl
set_option maxRecDepth 20000 in
theorem zxh50 : zk_ok1 lw_tbl zxm50 := ⟨List.mem_filter.mpr ⟨zxin3 _ (List.mem_of_getElem? (i := 157) rfl), rfl⟩, List.mem_filter.mpr ⟨List.mem_of_getElem? (i := 120) (by decide +kernel), rfl⟩, by decide +kernel, by decide +kernel⟩
theorem zxp51 : plainFor zxm51.1 = true := by decide +kernel
set_option maxRecDepth 20000 in
theorem zxt51 : z_MT[51]? = some zxm51 := rfl
set_option maxRecDepth 20000 in
theorem zxh51 : zk_ok1 lw_tbl zxm51 := ⟨List.mem_filter.mpr ⟨zxin3 _ (List.mem_of_getElem? (i := 161) rfl), rfl⟩, List.mem_filter.mpr ⟨List.mem_of_getElem? (i := 120) (by decide +kernel), rfl⟩, by decide +kernel, by decide +kernel⟩
theorem zxp52 : plainFor zxm52.1 = true := by decide +kernel
set_option maxRecDepth 20000 in
theorem zxt52 : z_MT[52]? = some zxm52 := rfl
set_option maxRecDepth 20000 in
theorem zxh52 : zk_ok1 lw_tbl zxm52 := ⟨List.mem_filter.mpr ⟨zxin3 _ (List.mem_of_getElem? (i := 165) rfl), rfl⟩, List.mem_filter.mpr ⟨List.mem_of_getElem? (i := 120) (by decide +kernel), rfl⟩, by decide +kernel, by decide +kernel⟩
theorem zxp53 : plainFor zxm53.1 = true := by decide +kernel
set_option maxRecDepth 20000 in
theorem zxt53 : z_MT[53]? = some zxm53 := rfl
set_option maxRecDepth 20000 in
theorem zxh53 : zk_ok1 lw_tbl zxm53 := ⟨List.mem_filter.mpr ⟨zxin3 _ (List.mem_of_getElem? (i := 169) rfl), rfl⟩, List.mem_filter.mpr ⟨List.mem_of_getElem? (i := 130) (by decide +kernel), rfl⟩, by decide +kernel, by decide +kernel⟩
theorem zxp54 : plainFor zxm54.1 = true := by decide +kernel
set_option maxRecDepth 20000 in
theorem zxt54 : z_MT[54]? = some zxm54 := rfl
set_option maxRecDepth 20000 in
theorem zxh54 : zk_ok1 lw_tbl zxm54 := ⟨List.mem_filter.mpr ⟨zxin3 _ (List.mem_of_getElem? (i := 172) rfl), rfl⟩, List.mem_filter.mpr ⟨List.mem_of_getElem? (i := 130) (by decide +kernel), rfl⟩, by decide +kernel, by decide +kernel⟩
theorem zxp55 : plainFor zxm55.1 = true := by decide +kernel
set_option maxRecDepth 20000 in
theorem zxt55 : z_MT[55]? = some zxm55 := rfl
set_option maxRecDepth 20000 in
theorem zxh55 : zk_ok1 lw_tbl zxm55 := ⟨List.mem_filter.mpr ⟨zxin3 _ (List.mem_of_getElem? (i := 175) rfl), rfl⟩, List.mem_filter.mpr ⟨List.mem_of_getElem? (i := 129) (by decide +kernel), rfl⟩, by decide +kernel, by decide +kernel⟩
theorem zxp56 : plainFor zxm56.1 = true := by decide +kernel
set_option maxRecDepth 20000 in
theorem zxt56 : z_MT[56]? = some zxm56 := rfl
set_option maxRecDepth 20000 in
theorem zxh56 : zk_ok1 lw_tbl zxm56 := ⟨List.mem_filter.mpr ⟨zxin3 _ (List.mem_of_getElem? (i := 179) rfl), rfl⟩, List.mem_filter.mpr ⟨List.mem_of_getElem? (i := 130) (by decide +kernel), rfl⟩, by decide +kernel, by decide +kernel⟩
theorem zxp57 : plainFor zxm57.1 = true := by decide +kernel
set_option maxRecDepth 20000 in
theorem zxt57 : z_MT[57]? = some zxm57 := rfl
set_option maxRecDepth 20000 in
theorem zxh57 : zk_ok1 lw_tbl zxm57 := ⟨List.mem_filter.mpr ⟨zxin3 _ (List.mem_of_getElem? (i := 182) rfl), rfl⟩, List.mem_filter.mpr ⟨List.mem_of_getElem? (i := 131) (by decide +kernel), rfl⟩, by decide +kernel, by decide +kernel⟩
theorem zxp58 : plainFor zxm58.1 = true := by decide +kernel
set_option maxRecDepth 20000 in
theorem zxt58 : z_MT[58]? = some zxm58 := rfl
set_option maxRecDepth 20000 in
theorem zxh58 : zk_ok1 lw_tbl zxm58 := ⟨List.mem_filter.mpr ⟨zxin3 _ (List.mem_of_getElem? (i := 188) rfl), rfl⟩, List.mem_filter.mpr ⟨List.mem_of_getElem? (i := 131) (by decide +kernel), rfl⟩, by decide +kernel, by decide +kernel⟩
theorem zxp59 : plainFor zxm59.1 = true := by decide +kernel
set_option maxRecDepth 20000 in
theorem zxt59 : z_MT[59]? = some zxm59 := rfl
set_option maxRecDepth 20000 in
theorem zxh59 : zk_ok1 lw_tbl zxm59 := ⟨List.mem_filter.mpr ⟨zxin3 _ (List.mem_of_getElem? (i := 191) rfl), rfl⟩, List.mem_filter.mpr ⟨List.mem_of_getElem? (i := 131) (by decide +kernel), rfl⟩, by decide +kernel, by decide +kernel⟩
theorem zxp60 : plainFor zxm60.1 = true := by decide +kernel
set_option maxRecDepth 20000 in
theorem zxt60 : z_MT[60]? = some zxm60 := rfl
set_option maxRecDepth 20000 in
theorem zxh60 : zk_ok1 lw_tbl zxm60 := ⟨List.mem_filter.mpr ⟨zxin3 _ (List.mem_of_getElem? (i := 194) rfl), rfl⟩, List.mem_filter.mpr ⟨List.mem_of_getElem? (i := 131) (by decide +kernel), rfl⟩, by decide +kernel, by decide +kernel⟩
theorem zxp61 : plainFor zxm61.1 = true := by decide +kernel
set_option maxRecDepth 20000 in
theorem zxt61 : z_MT[61]? = some zxm61 := rfl
set_option maxRecDepth 20000 in
theorem zxh61 : zk_ok1 lw_tbl zxm61 := ⟨List.mem_filter.mpr ⟨zxin3 _ (List.mem_of_getElem? (i := 197) rfl), rfl⟩, List.mem_filter.mpr ⟨List.mem_of_getElem? (i := 120) (by decide +kernel), rfl⟩, by decide +kernel, by decide +kernel⟩
theorem zxp62 : plainFor zxm62.1 = true := by decide +kernel
set_option maxRecDepth 20000 in
theorem zxt62 : z_MT[62]? = some zxm62 := rfl
set_option maxRecDepth 20000 in
theorem zxh62 : zk_ok1 lw_tbl zxm62 := ⟨List.mem_filter.mpr ⟨zxin3 _ (List.mem_of_getElem? (i := 202) rfl), rfl⟩, List.mem_filter.mpr ⟨List.mem_of_getElem? (i := 132) (by decide +kernel), rfl⟩, by decide +kernel, by decide +kernel⟩
theorem zxp63 : plainFor zxm63.1 = true := by decide +kernel
set_option maxRecDepth 20000 in
theorem zxt63 : z_MT[63]? = some zxm63 := rfl
set_option maxRecDepth 20000 in
theorem zxh63 : zk_ok1 lw_tbl zxm63 := ⟨List.mem_filter.mpr ⟨zxin3 _ (List.mem_of_getElem? (i := 205) rfl), rfl⟩, List.mem_filter.mpr ⟨List.mem_of_getElem? (i := 131) (by decide +kernel), rfl⟩, by decide +kernel, by decide +kernel⟩
theorem zxp64 : plainFor zxm64.1 = true := by decide +kernel
set_option maxRecDepth 20000 in
theorem zxt64 : z_MT[64]? = some zxm64 := rfl
set_option maxRecDepth 20000 in
theorem zxh64 : zk_ok1 lw_tbl zxm64 := ⟨List.mem_filter.mpr ⟨zxin3 _ (List.mem_of_getElem? (i := 208) rfl), rfl⟩, List.mem_filter.mpr ⟨List.mem_of_getElem? (i := 131) (by decide +kernel), rfl⟩, by decide +kernel, by decide +kernel⟩
theorem zxp65 : plainFor zxm65.1 = true := by decide +kernel
set_option maxRecDepth 20000 in
theorem zxt65 : z_MT[65]? = some zxm65 := rfl
set_option maxRecDepth 20000 in
theorem zxh65 : zk_ok1 lw_tbl zxm65 := ⟨List.mem_filter.mpr ⟨zxin3 _ (List.mem_of_getElem? (i := 217) rfl), rfl⟩, List.mem_filter.mpr ⟨List.mem_of_getElem? (i := 131) (by decide +kernel), rfl⟩, by decide +kernel, by decide +kernel⟩
theorem zxp66 : plainFor zxm66.1 = true := by decide +kernel
set_option maxRecDepth 20000 in
theorem zxt66 : z_MT[66]? = some zxm66 := rfl
set_option maxRecDepth 20000 in
theorem zxh66 : zk_ok1 lw_tbl zxm66 := ⟨List.mem_filter.mpr ⟨zxin3 _ (List.mem_of_getElem? (i := 220) rfl), rfl⟩, List.mem_filter.mpr ⟨List.mem_of_getElem? (i := 133) (by decide +kernel), rfl⟩, by decide +kernel, by decide +kernel⟩
theorem zxp67 : plainFor zxm67.1 = true := by decide +kernel
set_option maxRecDepth 20000 in
theorem zxt67 : z_MT[67]? = some zxm67 := rfl
set_option maxRecDepth 20000 in
theorem zxh67 : zk_ok1 lw_tbl zxm67 := ⟨List.mem_filter.mpr ⟨zxin3 _ (List.mem_of_getElem? (i := 223) rfl), rfl⟩, List.mem_filter.mpr ⟨List.mem_of_getElem? (i := 133) (by decide +kernel), rfl⟩, by decide +kernel, by decide +kernel⟩
theorem zxp68 : plainFor zxm68.1 = true := by decide +kernel
set_option maxRecDepth 20000 in
theorem zxt68 : z_MT[68]? = some zxm68 := rfl
set_option maxRecDepth 20000 in
theorem zxh68 : zk_ok1 lw_tbl zxm68 := ⟨List.mem_filter.mpr ⟨zxin3 _ (List.mem_of_getElem? (i := 227) rfl), rfl⟩, List.mem_filter.mpr ⟨List.mem_of_getElem? (i := 133) (by decide +kernel), rfl⟩, by decide +kernel, by decide +kernel⟩
theorem zxp69 : plainFor zxm69.1 = true := by decide +kernel
set_option maxRecDepth 20000 in
theorem zxt69 : z_MT[69]? = some zxm69 := rfl
set_option maxRecDepth 20000 in
theorem zxh69 : zk_ok1 lw_tbl zxm69 := ⟨List.mem_filter.mpr ⟨zxin3 _ (List.mem_of_getElem? (i := 232) rfl), rfl⟩, List.mem_filter.mpr ⟨List.mem_of_getElem? (i := 121) (by decide +kernel), rfl⟩, by decide +kernel, by decide +kernel⟩
theorem zxp70 : plainFor zxm70.1 = true := by decide +kernel
set_option maxRecDepth 20000 in
theorem zxt70 : z_MT[70]? = some zxm70 := rfl
set_option maxRecDepth 20000 in
theorem zxh70 : zk_ok1 lw_tbl zxm70 := ⟨List.mem_filter.mpr ⟨zxin3 _ (List.mem_of_getElem? (i := 236) rfl), rfl⟩, List.mem_filter.mpr ⟨List.mem_of_getElem? (i := 121) (by decide +kernel), rfl⟩, by decide +kernel, by decide +kernel⟩
theorem zxp71 : plainFor zxm71.1 = true := by decide +kernel
set_option maxRecDepth 20000 in
theorem zxt71 : z_MT[71]? = some zxm71 := rfl
set_option maxRecDepth 20000 in
theorem zxh71 : zk_ok1 lw_tbl zxm71 := ⟨List.mem_filter.mpr ⟨zxin4 _ (List.mem_of_getElem? (i := 0) rfl), rfl⟩, List.mem_filter.mpr ⟨List.mem_of_getElem? (i := 121) (by decide +kernel), rfl⟩, by decide +kernel, by decide +kernel⟩
theorem zxp72 : plainFor zxm72.1 = true := by decide +kernel
set_option maxRecDepth 20000 in
theorem zxt72 : z_MT[72]? = some zxm72 := rfl
set_option maxRecDepth 20000 in
theorem zxh72 : zk_ok1 lw_tbl zxm72 := ⟨List.mem_filter.mpr ⟨zxin4 _ (List.mem_of_getElem? (i := 4) rfl), rfl⟩, List.mem_filter.mpr ⟨List.mem_of_getElem? (i := 121) (by decide +kernel), rfl⟩, by decide +kernel, by decide +kernel⟩
theorem zxp73 : plainFor zxm73.1 = true := by decide +kernel
set_option maxRecDepth 20000 in
theorem zxt73 : z_MT[73]? = some zxm73 := rfl
set_option maxRecDepth 20000 in
theorem zxh73 : zk_ok1 lw_tbl zxm73 := ⟨List.mem_filter.mpr ⟨zxin4 _ (List.mem_of_getElem? (i := 8) rfl), rfl⟩, List.mem_filter.mpr ⟨List.mem_of_getElem? (i := 119) (by decide +kernel), rfl⟩, by decide +kernel, by decide +kernel⟩
theorem zxp74 : plainFor zxm74.1 = true := by decide +kernel
set_option maxRecDepth 20000 in
theorem zxt74 : z_MT[74]? = some zxm74 := rfl
set_option maxRecDepth 20000 in
theorem zxh74 : zk_ok1 lw_tbl zxm74 := ⟨List.mem_filter.mpr ⟨zxin4 _ (List.mem_of_getElem? (i := 12) rfl), rfl⟩, List.mem_filter.mpr ⟨List.mem_of_getElem? (i := 119) (by decide +kernel), rfl⟩, by decide +kernel, by decide +kernel⟩
theorem zxp75 : plainFor zxm75.1 = true := by decide +kernel
set_option maxRecDepth 20000 in
theorem zxt75 : z_MT[75]? = some zxm75 := rfl
set_option maxRecDepth 20000 in
theorem zxh75 : zk_ok1 lw_tbl zxm75 := ⟨List.mem_filter.mpr ⟨zxin4 _ (List.mem_of_getElem? (i := 16) rfl), rfl⟩, List.mem_filter.mpr ⟨List.mem_of_getElem? (i := 119) (by decide +kernel), rfl⟩, by decide +kernel, by decide +kernel⟩
theorem zxp76 : plainFor zxm76.1 = true := by decide +kernel
set_option maxRecDepth 20000 in
theorem zxt76 : z_MT[76]? = some zxm76 := rfl
set_option maxRecDepth 20000 in
theorem zxh76 : zk_ok1 lw_tbl zxm76 := ⟨List.mem_filter.mpr ⟨zxin4 _ (List.mem_of_getElem? (i := 20) rfl), rfl⟩, List.mem_filter.mpr ⟨List.mem_of_getElem? (i := 115) (by decide +kernel), rfl⟩, by decide +kernel, by decide +kernel⟩
theorem zxp77 : plainFor zxm77.1 = true := by decide +kernel
set_option maxRecDepth 20000 in
theorem zxt77 : z_MT[77]? = some zxm77 := rfl
set_option maxRecDepth 20000 in
theorem zxh77 : zk_ok1 lw_tbl zxm77 := ⟨List.mem_filter.mpr ⟨zxin4 _ (List.mem_of_getElem? (i := 24) rfl), rfl⟩, List.mem_filter.mpr ⟨List.mem_of_getElem? (i := 122) (by decide +kernel), rfl⟩, by decide +kernel, by decide +kernel⟩
theorem zxp78 : plainFor zxm78.1 = true := by decide +kernel
set_option maxRecDepth 20000 in
theorem zxt78 : z_MT[78]? = some zxm78 := rfl
set_option maxRecDepth 20000 in
theorem zxh78 : zk_ok1 lw_tbl zxm78 := ⟨List.mem_filter.mpr ⟨zxin4 _ (List.mem_of_getElem? (i := 27) rfl), rfl⟩, List.mem_filter.mpr ⟨List.mem_of_getElem? (i := 134) (by decide +kernel), rfl⟩, by decide +kernel, by decide +kernel⟩
theorem zxp79 : plainFor zxm79.1 = true := by decide +kernel
set_option maxRecDepth 20000 in
theorem zxt79 : z_MT[79]? = some zxm79 := rfl
set_option maxRecDepth 20000 in
theorem zxh79 : zk_ok1 lw_tbl zxm79 := ⟨List.mem_filter.mpr ⟨zxin4 _ (List.mem_of_getElem? (i := 30) rfl), rfl⟩, List.mem_filter.mpr ⟨List.mem_of_getElem? (i := 122) (by decide +kernel), rfl⟩, by decide +kernel, by decide +kernel⟩
theorem zxp80 : plainFor zxm80.1 = true := by decide +kernel
set_option maxRecDepth 20000 in
theorem zxt80 : z_MT[80]? = some zxm80 := rfl
set_option maxRecDepth 20000 in
theorem zxh80 : zk_ok1 lw_tbl zxm80 := ⟨List.mem_filter.mpr ⟨zxin4 _ (List.mem_of_getElem? (i := 35) rfl), rfl⟩, List.mem_filter.mpr ⟨List.mem_of_getElem? (i := 122) (by decide +kernel), rfl⟩, by decide +kernel, by decide +kernel⟩
theorem zxp81 : plainFor zxm81.1 = true := by decide +kernel
set_option maxRecDepth 20000 in
theorem zxt81 : z_MT[81]? = some zxm81 := rfl
set_option maxRecDepth 20000 in
theorem zxh81 : zk_ok1 lw_tbl zxm81 := ⟨List.mem_filter.mpr ⟨zxin4 _ (List.mem_of_getElem? (i := 39) rfl), rfl⟩, List.mem_filter.mpr ⟨List.mem_of_getElem? (i := 115) (by decide +kernel), rfl⟩, by decide +kernel, by decide +kernel⟩
theorem zxp82 : plainFor zxm82.1 = true := by decide +kernel
set_option maxRecDepth 20000 in
theorem zxt82 : z_MT[82]? = some zxm82 := rfl
set_option maxRecDepth 20000 in
theorem zxh82 : zk_ok1 lw_tbl zxm82 := ⟨List.mem_filter.mpr ⟨zxin4 _ (List.mem_of_getElem? (i := 43) rfl), rfl⟩, List.mem_filter.mpr ⟨List.mem_of_getElem? (i := 116) (by decide +kernel), rfl⟩, by decide +kernel, by decide +kernel⟩
theorem zxp83 : plainFor zxm83.1 = true := by decide +kernel
set_option maxRecDepth 20000 in
theorem zxt83 : z_MT[83]? = some zxm83 := rfl
set_option maxRecDepth 20000 in
theorem zxh83 : zk_ok1 lw_tbl zxm83 := ⟨List.mem_filter.mpr ⟨zxin4 _ (List.mem_of_getElem? (i := 47) rfl), rfl⟩, List.mem_filter.mpr ⟨List.mem_of_getElem? (i := 115) (by decide +kernel), rfl⟩, by decide +kernel, by decide +kernel⟩
theorem zxp84 : plainFor zxm84.1 = true := by decide +kernel
set_option maxRecDepth 20000 in
theorem zxt84 : z_MT[84]? = some zxm84 := rfl
set_option maxRecDepth 20000 in
theorem zxh84 : zk_ok1 lw_tbl zxm84 := ⟨List.mem_filter.mpr ⟨zxin4 _ (List.mem_of_getElem? (i := 51) rfl), rfl⟩, List.mem_filter.mpr ⟨List.mem_of_getElem? (i := 123) (by decide +kernel), rfl⟩, by decide +kernel, by decide +kernel⟩
theorem zxp85 : plainFor zxm85.1 = true := by decide +kernel
set_option maxRecDepth 20000 in
theorem zxt85 : z_MT[85]? = some zxm85 := rfl
set_option maxRecDepth 20000 in
theorem zxh85 : zk_ok1 lw_tbl zxm85 := ⟨List.mem_filter.mpr ⟨zxin4 _ (List.mem_of_getElem? (i := 56) rfl), rfl⟩, List.mem_filter.mpr ⟨List.mem_of_getElem? (i := 123) (by decide +kernel), rfl⟩, by decide +kernel, by decide +kernel⟩
theorem zxp86 : plainFor zxm86.1 = true := by decide +kernel
set_option maxRecDepth 20000 in
theorem zxt86 : z_MT[86]? = some zxm86 := rfl
set_option maxRecDepth 20000 in
theorem zxh86 : zk_ok1 lw_tbl zxm86 := ⟨List.mem_filter.mpr ⟨zxin4 _ (List.mem_of_getElem? (i := 60) rfl), rfl⟩, List.mem_filter.mpr ⟨List.mem_of_getElem? (i := 123) (by decide +kernel), rfl⟩, by decide +kernel, by decide +kernel⟩
theorem zxp87 : plainFor zxm87.1 = true := by decide +kernel
set_option maxRecDepth 20000 in
theorem zxt87 : z_MT[87]? = some zxm87 := rfl
set_option maxRecDepth 20000 in
theorem zxh87 : zk_ok1 lw_tbl zxm87 := ⟨List.mem_filter.mpr ⟨zxin4 _ (List.mem_of_getElem? (i := 64) rfl), rfl⟩, List.mem_filter.mpr ⟨List.mem_of_getElem? (i := 119) (by decide +kernel), rfl⟩, by decide +kernel, by decide +kernel⟩
theorem zxp88 : plainFor zxm88.1 = true := by decide +kernel
set_option maxRecDepth 20000 in
theorem zxt88 : z_MT[88]? = some zxm88 := rfl
set_option maxRecDepth 20000 in
theorem zxh88 : zk_ok1 lw_tbl zxm88 := ⟨List.mem_filter.mpr ⟨zxin4 _ (List.mem_of_getElem? (i := 69) rfl), rfl⟩, List.mem_filter.mpr ⟨List.mem_of_getElem? (i := 119) (by decide +kernel), rfl⟩, by decide +kernel, by decide +kernel⟩
theorem zxp89 : plainFor zxm89.1 = true := by decide +kernel
set_option maxRecDepth 20000 in
theorem zxt89 : z_MT[89]? = some zxm89 := rfl
set_option maxRecDepth 20000 in
theorem zxh89 : zk_ok1 lw_tbl zxm89 := ⟨List.mem_filter.mpr ⟨zxin4 _ (List.mem_of_getElem? (i := 73) rfl), rfl⟩, List.mem_filter.mpr ⟨List.mem_of_getElem? (i := 123) (by decide +kernel), rfl⟩, by decide +kernel, by decide +kernel⟩
theorem zxp90 : plainFor zxm90.1 = true := by decide +kernel
set_option maxRecDepth 20000 in
theorem zxt90 : z_MT[90]? = some zxm90 := rfl
set_option maxRecDepth 20000 in
theorem zxh90 : zk_ok1 lw_tbl zxm90 := ⟨List.mem_filter.mpr ⟨zxin4 _ (List.mem_of_getElem? (i := 78) rfl), rfl⟩, List.mem_filter.mpr ⟨List.mem_of_getElem? (i := 115) (by decide +kernel), rfl⟩, by decide +kernel, by decide +kernel⟩
theorem zxp91 : plainFor zxm91.1 = true := by decide +kernel
set_option maxRecDepth 20000 in
theorem zxt91 : z_MT[91]? = some zxm91 := rfl
set_option maxRecDepth 20000 in
theorem zxh91 : zk_ok1 lw_tbl zxm91 := ⟨List.mem_filter.mpr ⟨zxin4 _ (List.mem_of_getElem? (i := 81) rfl), rfl⟩, List.mem_filter.mpr ⟨List.mem_of_getElem? (i := 129) (by decide +kernel), rfl⟩, by decide +kernel, by decide +kernel⟩
theorem zxp92 : plainFor zxm92.1 = true := by decide +kernel
set_option maxRecDepth 20000 in
theorem zxt92 : z_MT[92]? = some zxm92 := rfl
set_option maxRecDepth 20000 in
theorem zxh92 : zk_ok1 lw_tbl zxm92 := ⟨List.mem_filter.mpr ⟨zxin4 _ (List.mem_of_getElem? (i := 87) rfl), rfl⟩, List.mem_filter.mpr ⟨List.mem_of_getElem? (i := 119) (by decide +kernel), rfl⟩, by decide +kernel, by decide +kernel⟩
theorem zxp93 : plainFor zxm93.1 = true := by decide +kernel
set_option maxRecDepth 20000 in
theorem zxt93 : z_MT[93]? = some zxm93 := rfl
set_option maxRecDepth 20000 in
theorem zxh93 : zk_ok1 lw_tbl zxm93 := ⟨List.mem_filter.mpr ⟨zxin4 _ (List.mem_of_getElem? (i := 92) rfl), rfl⟩, List.mem_filter.mpr ⟨List.mem_of_getElem? (i := 119) (by decide +kernel), rfl⟩, by decide +kernel, by decide +kernel⟩
theorem zxp94 : plainFor zxm94.1 = true := by decide +kernel
set_option maxRecDepth 20000 in
theorem zxt94 : z_MT[94]? = some zxm94 := rfl
set_option maxRecDepth 20000 in
theorem zxh94 : zk_ok1 lw_tbl zxm94 := ⟨List.mem_filter.mpr ⟨zxin4 _ (List.mem_of_getElem? (i := 96) rfl), rfl⟩, List.mem_filter.mpr ⟨List.mem_of_getElem? (i := 119) (by decide +kernel), rfl⟩, by decide +kernel, by decide +kernel⟩
theorem zxp95 : plainFor zxm95.1 = true := by decide +kernel
set_option maxRecDepth 20000 in
theorem zxt95 : z_MT[95]? = some zxm95 := rfl
set_option maxRecDepth 20000 in
theorem zxh95 : zk_ok1 lw_tbl zxm95 := ⟨List.mem_filter.mpr ⟨zxin4 _ (List.mem_of_getElem? (i := 101) rfl), rfl⟩, List.mem_filter.mpr ⟨List.mem_of_getElem? (i := 115) (by decide +kernel), rfl⟩, by decide +kernel, by decide +kernel⟩
theorem zxp96 : plainFor zxm96.1 = true := by decide +kernel
set_option maxRecDepth 20000 in
theorem zxt96 : z_MT[96]? = some zxm96 := rfl
set_option maxRecDepth 20000 in
theorem zxh96 : zk_ok1 lw_tbl zxm96 := ⟨List.mem_filter.mpr ⟨zxin4 _ (List.mem_of_getElem? (i := 105) rfl), rfl⟩, List.mem_filter.mpr ⟨List.mem_of_getElem? (i := 115) (by decide +kernel), rfl⟩, by decide +kernel, by decide +kernel⟩
theorem zxp97 : plainFor zxm97.1 = true := by decide +kernel
set_option maxRecDepth 20000 in
theorem zxt97 : z_MT[97]? = some zxm97 := rfl
set_option maxRecDepth 20000 in
theorem zxh97 : zk_ok1 lw_tbl zxm97 := ⟨List.mem_filter.mpr ⟨zxin4 _ (List.mem_of_getElem? (i := 109) rfl), rfl⟩, List.mem_filter.mpr ⟨List.mem_of_getElem? (i := 123) (by decide +kernel), rfl⟩, by decide +kernel, by decide +kernel⟩
theorem zxp98 : plainFor zxm98.1 = true := by decide +kernel
set_option maxRecDepth 20000 in
theorem zxt98 : z_MT[98]? = some zxm98 := rfl
set_option maxRecDepth 20000 in
theorem zxh98 : zk_ok1 lw_tbl zxm98 := ⟨List.mem_filter.mpr ⟨zxin4 _ (List.mem_of_getElem? (i := 113) rfl), rfl⟩, List.mem_filter.mpr ⟨List.mem_of_getElem? (i := 123) (by decide +kernel), rfl⟩, by decide +kernel, by decide +kernel⟩
theorem zxp99 : plainFor zxm99.1 = true := by decide +kernel
set_option maxRecDepth 20000 in
theorem zxt99 : z_MT[99]? = some zxm99 := rfl
set_option maxRecDepth 20000 in
theorem zxh99 : zk_ok1 lw_tbl zxm99 := ⟨List.mem_filter.mpr ⟨zxin4 _ (List.mem_of_getElem? (i := 117) rfl), rfl⟩, List.mem_filter.mpr ⟨List.mem_of_getElem? (i := 119) (by decide +kernel), rfl⟩, by decide +kernel, by decide +kernel⟩
theorem zxp100 : plainFor zxm100.1 = true := by decide +kernel
set_option maxRecDepth 20000 in
theorem zxt100 : z_MT[100]? = some zxm100 := rfl
set_option maxRecDepth 20000 in
theorem zxh100 : zk_ok1 lw_tbl zxm100 := ⟨List.mem_filter.mpr ⟨zxin4 _ (List.mem_of_getElem? (i := 121) rfl), rfl⟩, List.mem_filter.mpr ⟨List.mem_of_getElem? (i := 115) (by decide +kernel), rfl⟩, by decide +kernel, by decide +kernel⟩
theorem zxp101 : plainFor zxm101.1 = true := by decide +kernel
set_option maxRecDepth 20000 in
theorem zxt101 : z_MT[101]? = some zxm101 := rfl
set_option maxRecDepth 20000 in
theorem zxh101 : zk_ok1 lw_tbl zxm101 := ⟨List.mem_filter.mpr ⟨zxin4 _ (List.mem_of_getElem? (i := 125) rfl), rfl⟩, List.mem_filter.mpr ⟨List.mem_of_getElem? (i := 123) (by decide +kernel), rfl⟩, by decide +kernel, by decide +kernel⟩
theorem zxp102 : plainFor zxm102.1 = true := by decide +kernel
set_option maxRecDepth 20000 in
theorem zxt102 : z_MT[102]? = some zxm102 := rfl
set_option maxRecDepth 20000 in
theorem zxh102 : zk_ok1 lw_tbl zxm102 := ⟨List.mem_filter.mpr ⟨zxin4 _ (List.mem_of_getElem? (i := 128) rfl), rfl⟩, List.mem_filter.mpr ⟨List.mem_of_getElem? (i := 135) (by decide +kernel), rfl⟩, by decide +kernel, by decide +kernel⟩
theorem zxp103 : plainFor zxm103.1 = true := by decide +kernel
set_option maxRecDepth 20000 in
theorem zxt103 : z_MT[103]? = some zxm103 := rfl
set_option maxRecDepth 20000 in
theorem zxh103 : zk_ok1 lw_tbl zxm103 := ⟨List.mem_filter.mpr ⟨zxin4 _ (List.mem_of_getElem? (i := 135) rfl), rfl⟩, List.mem_filter.mpr ⟨List.mem_of_getElem? (i := 123) (by decide +kernel), rfl⟩, by decide +kernel, by decide +kernel⟩
theorem zxp104 : plainFor zxm104.1 = true := by decide +kernel
set_option maxRecDepth 20000 in
theorem zxt104 : z_MT[104]? = some zxm104 := rfl
set_option maxRecDepth 20000 in
theorem zxh104 : zk_ok1 lw_tbl zxm104 := ⟨List.mem_filter.mpr ⟨zxin4 _ (List.mem_of_getElem? (i := 139) rfl), rfl⟩, List.mem_filter.mpr ⟨List.mem_of_getElem? (i := 123) (by decide +kernel), rfl⟩, by decide +kernel, by decide +kernel⟩
theorem zxp105 : plainFor zxm105.1 = true := by decide +kernel
set_option maxRecDepth 20000 in
theorem zxt105 : z_MT[105]? = some zxm105 := rfl
set_option maxRecDepth 20000 in
theorem zxh105 : zk_ok1 lw_tbl zxm105 := ⟨List.mem_filter.mpr ⟨zxin4 _ (List.mem_of_getElem? (i := 142) rfl), rfl⟩, List.mem_filter.mpr ⟨List.mem_of_getElem? (i := 115) (by decide +kernel), rfl⟩, by decide +kernel, by decide +kernel⟩
theorem zxp106 : plainFor zxm106.1 = true := by decide +kernel
set_option maxRecDepth 20000 in
theorem zxt106 : z_MT[106]? = some zxm106 := rfl
set_option maxRecDepth 20000 in
theorem zxh106 : zk_ok1 lw_tbl zxm106 := ⟨List.mem_filter.mpr ⟨zxin4 _ (List.mem_of_getElem? (i := 147) rfl), rfl⟩, List.mem_filter.mpr ⟨List.mem_of_getElem? (i := 123) (by decide +kernel), rfl⟩, by decide +kernel, by decide +kernel⟩
theorem zxp107 : plainFor zxm107.1 = true := by decide +kernel
set_option maxRecDepth 20000 in
theorem zxt107 : z_MT[107]? = some zxm107 := rfl
set_option maxRecDepth 20000 in
theorem zxh107 : zk_ok1 lw_tbl zxm107 := ⟨List.mem_filter.mpr ⟨zxin4 _ (List.mem_of_getElem? (i := 152) rfl), rfl⟩, List.mem_filter.mpr ⟨List.mem_of_getElem? (i := 123) (by decide +kernel), rfl⟩, by decide +kernel, by decide +kernel⟩
theorem zxp108 : plainFor zxm108.1 = true := by decide +kernel
set_option maxRecDepth 20000 in
theorem zxt108 : z_MT[108]? = some zxm108 := rfl
set_option maxRecDepth 20000 in
theorem zxh108 : zk_ok1 lw_tbl zxm108 := ⟨List.mem_filter.mpr ⟨zxin4 _ (List.mem_of_getElem? (i := 156) rfl), rfl⟩, List.mem_filter.mpr ⟨List.mem_of_getElem? (i := 123) (by decide +kernel), rfl⟩, by decide +kernel, by decide +kernel⟩
theorem zxp109 : plainFor zxm109.1 = true := by decide +kernel
set_option maxRecDepth 20000 in
theorem zxt109 : z_MT[109]? = some zxm109 := rfl
set_option maxRecDepth 20000 in
theorem zxh109 : zk_ok1 lw_tbl zxm109 := ⟨List.mem_filter.mpr ⟨zxin4 _ (List.mem_of_getElem? (i := 160) rfl), rfl⟩, List.mem_filter.mpr ⟨List.mem_of_getElem? (i := 123) (by decide +kernel), rfl⟩, by decide +kernel, by decide +kernel⟩
theorem zxp110 : plainFor zxm110.1 = true := by decide +kernel
set_option maxRecDepth 20000 in
theorem zxt110 : z_MT[110]? = some zxm110 := rfl
set_option maxRecDepth 20000 in
theorem zxh110 : zk_ok1 lw_tbl zxm110 := ⟨List.mem_filter.mpr ⟨zxin4 _ (List.mem_of_getElem? (i := 165) rfl), rfl⟩, List.mem_filter.mpr ⟨List.mem_of_getElem? (i := 115) (by decide +kernel), rfl⟩, by decide +kernel, by decide +kernel⟩
theorem zxp111 : plainFor zxm111.1 = true := by decide +kernel
set_option maxRecDepth 20000 in
theorem zxt111 : z_MT[111]? = some zxm111 := rfl
set_option maxRecDepth 20000 in
theorem zxh111 : zk_ok1 lw_tbl zxm111 := ⟨List.mem_filter.mpr ⟨zxin4 _ (List.mem_of_getElem? (i := 170) rfl), rfl⟩, List.mem_filter.mpr ⟨List.mem_of_getElem? (i := 115) (by decide +kernel), rfl⟩, by decide +kernel, by decide +kernel⟩
theorem zxp112 : plainFor zxm112.1 = true := by decide +kernel
set_option maxRecDepth 20000 in
theorem zxt112 : z_MT[112]? = some zxm112 := rfl
set_option maxRecDepth 20000 in
theorem zxh112 : zk_ok1 lw_tbl zxm112 := ⟨List.mem_filter.mpr ⟨zxin4 _ (List.mem_of_getElem? (i := 174) rfl), rfl⟩, List.mem_filter.mpr ⟨List.mem_of_getElem? (i := 124) (by decide +kernel), rfl⟩, by decide +kernel, by decide +kernel⟩
theorem zxp113 : plainFor zxm113.1 = true := by decide +kernel
set_option maxRecDepth 20000 in
theorem zxt113 : z_MT[113]? = some zxm113 := rfl
set_option maxRecDepth 20000 in
theorem zxh113 : zk_ok1 lw_tbl zxm113 := ⟨List.mem_filter.mpr ⟨zxin4 _ (List.mem_of_getElem? (i := 178) rfl), rfl⟩, List.mem_filter.mpr ⟨List.mem_of_getElem? (i := 124) (by decide +kernel), rfl⟩, by decide +kernel, by decide +kernel⟩
theorem zxp114 : plainFor zxm114.1 = true := by decide +kernel
set_option maxRecDepth 20000 in
theorem zxt114 : z_MT[114]? = some zxm114 := rfl
set_option maxRecDepth 20000 in
theorem zxh114 : zk_ok1 lw_tbl zxm114 := ⟨List.mem_filter.mpr ⟨zxin4 _ (List.mem_of_getElem? (i := 183) rfl), rfl⟩, List.mem_filter.mpr ⟨List.mem_of_getElem? (i := 124) (by decide +kernel), rfl⟩, by decide +kernel, by decide +kernel⟩
theorem zxp115 : plainFor zxm115.1 = true := by decide +kernel
set_option maxRecDepth 20000 in
theorem zxt115 : z_MT[115]? = some zxm115 := rfl
set_option maxRecDepth 20000 in
theorem zxh115 : zk_ok1 lw_tbl zxm115 := ⟨List.mem_filter.mpr ⟨zxin4 _ (List.mem_of_getElem? (i := 187) rfl), rfl⟩, List.mem_filter.mpr ⟨List.mem_of_getElem? (i := 124) (by decide +kernel), rfl⟩, by decide +kernel, by decide +kernel⟩
theorem zxp116 : plainFor zxm116.1 = true := by decide +kernel
set_option maxRecDepth 20000 in
theorem zxt116 : z_MT[116]? = some zxm116 := rfl
set_option maxRecDepth 20000 in
theorem zxh116 : zk_ok1 lw_tbl zxm116 := ⟨List.mem_filter.mpr ⟨zxin4 _ (List.mem_of_getElem? (i := 191) rfl), rfl⟩, List.mem_filter.mpr ⟨List.mem_of_getElem? (i := 124) (by decide +kernel), rfl⟩, by decide +kernel, by decide +kernel⟩
theorem zxp117 : plainFor zxm117.1 = true := by decide +kernel
set_option maxRecDepth 20000 in
theorem zxt117 : z_MT[117]? = some zxm117 := rfl
set_option maxRecDepth 20000 in
theorem zxh117 : zk_ok1 lw_tbl zxm117 := ⟨List.mem_filter.mpr ⟨zxin4 _ (List.mem_of_getElem? (i := 195) rfl), rfl⟩, List.mem_filter.mpr ⟨List.mem_of_getElem? (i := 124) (by decide +kernel), rfl⟩, by decide +kernel, by decide +kernel⟩
theorem zxp118 : plainFor zxm118.1 = true := by decide +kernel
set_option maxRecDepth 20000 in
theorem zxt118 : z_MT[118]? = some zxm118 := rfl
set_option maxRecDepth 20000 in
theorem zxh118 : zk_ok1 lw_tbl zxm118 := ⟨List.mem_filter.mpr ⟨zxin4 _ (List.mem_of_getElem? (i := 199) rfl), rfl⟩, List.mem_filter.mpr ⟨List.mem_of_getElem? (i := 124) (by decide +kernel), rfl⟩, by decide +kernel, by decide +kernel⟩
theorem zxp119 : plainFor zxm119.1 = true := by decide +kernel
set_option maxRecDepth 20000 in
theorem zxt119 : z_MT[119]? = some zxm119 := rfl
set_option maxRecDepth 20000 in
theorem zxh119 : zk_ok1 lw_tbl zxm119 := ⟨List.mem_filter.mpr ⟨zxin4 _ (List.mem_of_getElem? (i := 203) rfl), rfl⟩, List.mem_filter.mpr ⟨List.mem_of_getElem? (i := 124) (by decide +kernel), rfl⟩, by decide +kernel, by decide +kernel⟩
theorem zxp120 : plainFor zxm120.1 = true := by decide +kernel
set_option maxRecDepth 20000 in
theorem zxt120 : z_MT[120]? = some zxm120 := rfl
set_option maxRecDepth 20000 in
theorem zxh120 : zk_ok1 lw_tbl zxm120 := ⟨List.mem_filter.mpr ⟨zxin4 _ (List.mem_of_getElem? (i := 208) rfl), rfl⟩, List.mem_filter.mpr ⟨List.mem_of_getElem? (i := 124) (by decide +kernel), rfl⟩, by decide +kernel, by decide +kernel⟩
theorem zxp121 : plainFor zxm121.1 = true := by decide +kernel
set_option maxRecDepth 20000 in
theorem zxt121 : z_MT[121]? = some zxm121 := rfl
set_option maxRecDepth 20000 in
theorem zxh121 : zk_ok1 lw_tbl zxm121 := ⟨List.mem_filter.mpr ⟨zxin4 _ (List.mem_of_getElem? (i := 212) rfl), rfl⟩, List.mem_filter.mpr ⟨List.mem_of_getElem? (i := 124) (by decide +kernel), rfl⟩, by decide +kernel, by decide +kernel⟩
theorem zxp122 : plainFor zxm122.1 = true := by decide +kernel
set_option maxRecDepth 20000 in
theorem zxt122 : z_MT[122]? = some zxm122 := rfl
set_option maxRecDepth 20000 in
theorem zxh122 : zk_ok1 lw_tbl zxm122 := ⟨List.mem_filter.mpr ⟨zxin4 _ (List.mem_of_getElem? (i := 216) rfl), rfl⟩, List.mem_filter.mpr ⟨List.mem_of_getElem? (i := 115) (by decide +kernel), rfl⟩, by decide +kernel, by decide +kernel⟩
theorem zxp123 : plainFor zxm123.1 = true := by decide +kernel
set_option maxRecDepth 20000 in
theorem zxt123 : z_MT[123]? = some zxm123 := rfl
set_option maxRecDepth 20000 in
theorem zxh123 : zk_ok1 lw_tbl zxm123 := ⟨List.mem_filter.mpr ⟨zxin4 _ (List.mem_of_getElem? (i := 220) rfl), rfl⟩, List.mem_filter.mpr ⟨List.mem_of_getElem? (i := 115) (by decide +kernel), rfl⟩, by decide +kernel, by decide +kernel⟩
theorem zxp124 : plainFor zxm124.1 = true := by decide +kernel
set_option maxRecDepth 20000 in
theorem zxt124 : z_MT[124]? = some zxm124 := rfl
set_option maxRecDepth 20000 in
theorem zxh124 : zk_ok1 lw_tbl zxm124 := ⟨List.mem_filter.mpr ⟨zxin4 _ (List.mem_of_getElem? (i := 226) rfl), rfl⟩, List.mem_filter.mpr ⟨List.mem_of_getElem? (i := 115) (by decide +kernel), rfl⟩, by decide +kernel, by decide +kernel⟩
theorem zxp125 : plainFor zxm125.1 = true := by decide +kernel
set_option maxRecDepth 20000 in
theorem zxt125 : z_MT[125]? = some zxm125 := rfl
set_option maxRecDepth 20000 in
theorem zxh125 : zk_ok1 lw_tbl zxm125 := ⟨List.mem_filter.mpr ⟨zxin4 _ (List.mem_of_getElem? (i := 230) rfl), rfl⟩, List.mem_filter.mpr ⟨List.mem_of_getElem? (i := 116) (by decide +kernel), rfl⟩, by decide +kernel, by decide +kernel⟩
theorem zxp126 : plainFor zxm126.1 = true := by decide +kernel
set_option maxRecDepth 20000 in
theorem zxt126 : z_MT[126]? = some zxm126 := rfl
set_option maxRecDepth 20000 in
theorem zxh126 : zk_ok1 lw_tbl zxm126 := ⟨List.mem_filter.mpr ⟨zxin4 _ (List.mem_of_getElem? (i := 237) rfl), rfl⟩, List.mem_filter.mpr ⟨List.mem_of_getElem? (i := 115) (by decide +kernel), rfl⟩, by decide +kernel, by decide +kernel⟩
theorem zxp127 : plainFor zxm127.1 = true := by decide +kernel
set_option maxRecDepth 20000 in
theorem zxt127 : z_MT[127]? = some zxm127 := rfl
set_option maxRecDepth 20000 in
theorem zxh127 : zk_ok1 lw_tbl zxm127 := ⟨List.mem_filter.mpr ⟨zxin5 _ (List.mem_of_getElem? (i := 1) rfl), rfl⟩, List.mem_filter.mpr ⟨List.mem_of_getElem? (i := 126) (by decide +kernel), rfl⟩, by decide +kernel, by decide +kernel⟩
theorem zxp128 : plainFor zxm128.1 = true := by decide +kernel
set_option maxRecDepth 20000 in
theorem zxt128 : z_MT[128]? = some zxm128 := rfl
set_option maxRecDepth 20000 in
theorem zxh128 : zk_ok1 lw_tbl zxm128 := ⟨List.mem_filter.mpr ⟨zxin5 _ (List.mem_of_getElem? (i := 8) rfl), rfl⟩, List.mem_filter.mpr ⟨List.mem_of_getElem? (i := 126) (by decide +kernel), rfl⟩, by decide +kernel, by decide +kernel⟩
theorem zxp129 : plainFor zxm129.1 = true := by decide +kernel
set_option maxRecDepth 20000 in
theorem zxt129 : z_MT[129]? = some zxm129 := rfl
set_option maxRecDepth 20000 in
theorem zxh129 : zk_ok1 lw_tbl zxm129 := ⟨List.mem_filter.mpr ⟨zxin5 _ (List.mem_of_getElem? (i := 12) rfl), rfl⟩, List.mem_filter.mpr ⟨List.mem_of_getElem? (i := 129) (by decide +kernel), rfl⟩, by decide +kernel, by decide +kernel⟩
theorem zxp130 : plainFor zxm130.1 = true := by decide +kernel
set_option maxRecDepth 20000 in
theorem zxt130 : z_MT[130]? = some zxm130 := rfl
set_option maxRecDepth 20000 in
theorem zxh130 : zk_ok1 lw_tbl zxm130 := ⟨List.mem_filter.mpr ⟨zxin5 _ (List.mem_of_getElem? (i := 15) rfl), rfl⟩, List.mem_filter.mpr ⟨List.mem_of_getElem? (i := 126) (by decide +kernel), rfl⟩, by decide +kernel, by decide +kernel⟩
theorem zxp131 : plainFor zxm131.1 = true := by decide +kernel
set_option maxRecDepth 20000 in
theorem zxt131 : z_MT[131]? = some zxm131 := rfl
set_option maxRecDepth 20000 in
theorem zxh131 : zk_ok1 lw_tbl zxm131 := ⟨List.mem_filter.mpr ⟨zxin5 _ (List.mem_of_getElem? (i := 20) rfl), rfl⟩, List.mem_filter.mpr ⟨List.mem_of_getElem? (i := 126) (by decide +kernel), rfl⟩, by decide +kernel, by decide +kernel⟩
theorem zxp132 : plainFor zxm132.1 = true := by decide +kernel
set_option maxRecDepth 20000 in
theorem zxt132 : z_MT[132]? = some zxm132 := rfl
set_option maxRecDepth 20000 in
theorem zxh132 : zk_ok1 lw_tbl zxm132 := ⟨List.mem_filter.mpr ⟨zxin5 _ (List.mem_of_getElem? (i := 24) rfl), rfl⟩, List.mem_filter.mpr ⟨List.mem_of_getElem? (i := 126) (by decide +kernel), rfl⟩, by decide +kernel, by decide +kernel⟩
theorem zxp133 : plainFor zxm133.1 = true := by decide +kernel
set_option maxRecDepth 20000 in
theorem zxt133 : z_MT[133]? = some zxm133 := rfl
set_option maxRecDepth 20000 in
theorem zxh133 : zk_ok1 lw_tbl zxm133 := ⟨List.mem_filter.mpr ⟨zxin5 _ (List.mem_of_getElem? (i := 28) rfl), rfl⟩, List.mem_filter.mpr ⟨List.mem_of_getElem? (i := 126) (by decide +kernel), rfl⟩, by decide +kernel, by decide +kernel⟩
theorem zxp134 : plainFor zxm134.1 = true := by decide +kernel
set_option maxRecDepth 20000 in
theorem zxt134 : z_MT[134]? = some zxm134 := rfl
set_option maxRecDepth 20000 in
theorem zxh134 : zk_ok1 lw_tbl zxm134 := ⟨List.mem_filter.mpr ⟨zxin5 _ (List.mem_of_getElem? (i := 31) rfl), rfl⟩, List.mem_filter.mpr ⟨List.mem_of_getElem? (i := 126) (by decide +kernel), rfl⟩, by decide +kernel, by decide +kernel⟩
theorem zxp135 : plainFor zxm135.1 = true := by decide +kernel
set_option maxRecDepth 20000 in
theorem zxt135 : z_MT[135]? = some zxm135 := rfl
set_option maxRecDepth 20000 in
theorem zxh135 : zk_ok1 lw_tbl zxm135 := ⟨List.mem_filter.mpr ⟨zxin5 _ (List.mem_of_getElem? (i := 35) rfl), rfl⟩, List.mem_filter.mpr ⟨List.mem_of_getElem? (i := 126) (by decide +kernel), rfl⟩, by decide +kernel, by decide +kernel⟩
theorem zxp136 : plainFor zxm136.1 = true := by decide +kernel
set_option maxRecDepth 20000 in
theorem zxt136 : z_MT[136]? = some zxm136 := rfl
set_option maxRecDepth 20000 in
theorem zxh136 : zk_ok1 lw_tbl zxm136 := ⟨List.mem_filter.mpr ⟨zxin5 _ (List.mem_of_getElem? (i := 40) rfl), rfl⟩, List.mem_filter.mpr ⟨List.mem_of_getElem? (i := 115) (by decide +kernel), rfl⟩, by decide +kernel, by decide +kernel⟩
theorem zxp137 : plainFor zxm137.1 = true := by decide +kernel
set_option maxRecDepth 20000 in
theorem zxt137 : z_MT[137]? = some zxm137 := rfl
set_option maxRecDepth 20000 in
theorem zxh137 : zk_ok1 lw_tbl zxm137 := ⟨List.mem_filter.mpr ⟨zxin5 _ (List.mem_of_getElem? (i := 44) rfl), rfl⟩, List.mem_filter.mpr ⟨List.mem_of_getElem? (i := 126) (by decide +kernel), rfl⟩, by decide +kernel, by decide +kernel⟩
theorem zxp138 : plainFor zxm138.1 = true := by decide +kernel
set_option maxRecDepth 20000 in
theorem zxt138 : z_MT[138]? = some zxm138 := rfl
set_option maxRecDepth 20000 in
theorem zxh138 : zk_ok1 lw_tbl zxm138 := ⟨List.mem_filter.mpr ⟨zxin5 _ (List.mem_of_getElem? (i := 49) rfl), rfl⟩, List.mem_filter.mpr ⟨List.mem_of_getElem? (i := 118) (by decide +kernel), rfl⟩, by decide +kernel, by decide +kernel⟩
theorem zxp139 : plainFor zxm139.1 = true := by decide +kernel
set_option maxRecDepth 20000 in
theorem zxt139 : z_MT[139]? = some zxm139 := rfl
set_option maxRecDepth 20000 in
theorem zxh139 : zk_ok1 lw_tbl zxm139 := ⟨List.mem_filter.mpr ⟨zxin5 _ (List.mem_of_getElem? (i := 53) rfl), rfl⟩, List.mem_filter.mpr ⟨List.mem_of_getElem? (i := 126) (by decide +kernel), rfl⟩, by decide +kernel, by decide +kernel⟩
theorem zxp140 : plainFor zxm140.1 = true := by decide +kernel
set_option maxRecDepth 20000 in
theorem zxt140 : z_MT[140]? = some zxm140 := rfl
set_option maxRecDepth 20000 in
theorem zxh140 : zk_ok1 lw_tbl zxm140 := ⟨List.mem_filter.mpr ⟨zxin5 _ (List.mem_of_getElem? (i := 58) rfl), rfl⟩, List.mem_filter.mpr ⟨List.mem_of_getElem? (i := 115) (by decide +kernel), rfl⟩, by decide +kernel, by decide +kernel⟩
theorem zxp141 : plainFor zxm141.1 = true := by decide +kernel
set_option maxRecDepth 20000 in
theorem zxt141 : z_MT[141]? = some zxm141 := rfl
set_option maxRecDepth 20000 in
theorem zxh141 : zk_ok1 lw_tbl zxm141 := ⟨List.mem_filter.mpr ⟨zxin5 _ (List.mem_of_getElem? (i := 63) rfl), rfl⟩, List.mem_filter.mpr ⟨List.mem_of_getElem? (i := 127) (by decide +kernel), rfl⟩, by decide +kernel, by decide +kernel⟩
theorem zxp142 : plainFor zxm142.1 = true := by decide +kernel
set_option maxRecDepth 20000 in
theorem zxt142 : z_MT[142]? = some zxm142 := rfl
set_option maxRecDepth 20000 in
theorem zxh142 : zk_ok1 lw_tbl zxm142 := ⟨List.mem_filter.mpr ⟨zxin5 _ (List.mem_of_getElem? (i := 68) rfl), rfl⟩, List.mem_filter.mpr ⟨List.mem_of_getElem? (i := 127) (by decide +kernel), rfl⟩, by decide +kernel, by decide +kernel⟩
theorem zxp143 : plainFor zxm143.1 = true := by decide +kernel
set_option maxRecDepth 20000 in
theorem zxt143 : z_MT[143]? = some zxm143 := rfl
set_option maxRecDepth 20000 in
theorem zxh143 : zk_ok1 lw_tbl zxm143 := ⟨List.mem_filter.mpr ⟨zxin5 _ (List.mem_of_getElem? (i := 73) rfl), rfl⟩, List.mem_filter.mpr ⟨List.mem_of_getElem? (i := 127) (by decide +kernel), rfl⟩, by decide +kernel, by decide +kernel⟩
theorem zxp144 : plainFor zxm144.1 = true := by decide +kernel
set_option maxRecDepth 20000 in
theorem zxt144 : z_MT[144]? = some zxm144 := rfl
set_option maxRecDepth 20000 in
theorem zxh144 : zk_ok1 lw_tbl zxm144 := ⟨List.mem_filter.mpr ⟨zxin5 _ (List.mem_of_getElem? (i := 77) rfl), rfl⟩, List.mem_filter.mpr ⟨List.mem_of_getElem? (i := 115) (by decide +kernel), rfl⟩, by decide +kernel, by decide +kernel⟩
theorem zxp145 : plainFor zxm145.1 = true := by decide +kernel
set_option maxRecDepth 20000 in
theorem zxt145 : z_MT[145]? = some zxm145 := rfl
set_option maxRecDepth 20000 in
theorem zxh145 : zk_ok1 lw_tbl zxm145 := ⟨List.mem_filter.mpr ⟨zxin5 _ (List.mem_of_getElem? (i := 81) rfl), rfl⟩, List.mem_filter.mpr ⟨List.mem_of_getElem? (i := 127) (by decide +kernel), rfl⟩, by decide +kernel, by decide +kernel⟩
theorem zxp146 : plainFor zxm146.1 = true := by decide +kernel
set_option maxRecDepth 20000 in
theorem zxt146 : z_MT[146]? = some zxm146 := rfl
set_option maxRecDepth 20000 in
theorem zxh146 : zk_ok1 lw_tbl zxm146 := ⟨List.mem_filter.mpr ⟨zxin5 _ (List.mem_of_getElem? (i := 89) rfl), rfl⟩, List.mem_filter.mpr ⟨List.mem_of_getElem? (i := 119) (by decide +kernel), rfl⟩, by decide +kernel, by decide +kernel⟩
theorem zxp147 : plainFor zxm147.1 = true := by decide +kernel
set_option maxRecDepth 20000 in
theorem zxt147 : z_MT[147]? = some zxm147 := rfl
set_option maxRecDepth 20000 in
theorem zxh147 : zk_ok1 lw_tbl zxm147 := ⟨List.mem_filter.mpr ⟨zxin5 _ (List.mem_of_getElem? (i := 94) rfl), rfl⟩, List.mem_filter.mpr ⟨List.mem_of_getElem? (i := 127) (by decide +kernel), rfl⟩, by decide +kernel, by decide +kernel⟩
theorem zxp148 : plainFor zxm148.1 = true := by decide +kernel
set_option maxRecDepth 20000 in
theorem zxt148 : z_MT[148]? = some zxm148 := rfl
set_option maxRecDepth 20000 in
theorem zxh148 : zk_ok1 lw_tbl zxm148 := ⟨List.mem_filter.mpr ⟨zxin5 _ (List.mem_of_getElem? (i := 99) rfl), rfl⟩, List.mem_filter.mpr ⟨List.mem_of_getElem? (i := 127) (by decide +kernel), rfl⟩, by decide +kernel, by decide +kernel⟩
theorem zxp149 : plainFor zxm149.1 = true := by decide +kernel
set_option maxRecDepth 20000 in
theorem zxt149 : z_MT[149]? = some zxm149 := rfl
set_option maxRecDepth 20000 in
theorem zxh149 : zk_ok1 lw_tbl zxm149 := ⟨List.mem_filter.mpr ⟨zxin5 _ (List.mem_of_getElem? (i := 103) rfl), rfl⟩, List.mem_filter.mpr ⟨List.mem_of_getElem? (i := 127) (by decide +kernel), rfl⟩, by decide +kernel, by decide +kernel⟩
theorem zxp150 : plainFor zxm150.1 = true := by decide +kernel
set_option maxRecDepth 20000 in
theorem zxt150 : z_MT[150]? = some zxm150 := rfl
set_option maxRecDepth 20000 in
theorem zxh150 : zk_ok1 lw_tbl zxm150 := ⟨List.mem_filter.mpr ⟨zxin5 _ (List.mem_of_getElem? (i := 107) rfl), rfl⟩, List.mem_filter.mpr ⟨List.mem_of_getElem? (i := 127) (by decide +kernel), rfl⟩, by decide +kernel, by decide +kernel⟩
theorem zxp151 : plainFor zxm151.1 = true := by decide +kernel
set_option maxRecDepth 20000 in
theorem zxt151 : z_MT[151]? = some zxm151 := rfl
set_option maxRecDepth 20000 in
theorem zxh151 : zk_ok1 lw_tbl zxm151 := ⟨List.mem_filter.mpr ⟨zxin5 _ (List.mem_of_getElem? (i := 111) rfl), rfl⟩, List.mem_filter.mpr ⟨List.mem_of_getElem? (i := 115) (by decide +kernel), rfl⟩, by decide +kernel, by decide +kernel⟩
theorem zxp152 : plainFor zxm152.1 = true := by decide +kernel
set_option maxRecDepth 20000 in
theorem zxt152 : z_MT[152]? = some zxm152 := rfl
set_option maxRecDepth 20000 in
theorem zxh152 : zk_ok1 lw_tbl zxm152 := ⟨List.mem_filter.mpr ⟨zxin5 _ (List.mem_of_getElem? (i := 116) rfl), rfl⟩, List.mem_filter.mpr ⟨List.mem_of_getElem? (i := 116) (by decide +kernel), rfl⟩, by decide +kernel, by decide +kernel⟩
theorem zxp153 : plainFor zxm153.1 = true := by decide +kernel
set_option maxRecDepth 20000 in
theorem zxt153 : z_MT[153]? = some zxm153 := rfl
set_option maxRecDepth 20000 in
theorem zxh153 : zk_ok1 lw_tbl zxm153 := ⟨List.mem_filter.mpr ⟨zxin5 _ (List.mem_of_getElem? (i := 124) rfl), rfl⟩, List.mem_filter.mpr ⟨List.mem_of_getElem? (i := 125) (by decide +kernel), rfl⟩, by decide +kernel, by decide +kernel⟩
theorem zxp154 : plainFor zxm154.1 = true := by decide +kernel
set_option maxRecDepth 20000 in
theorem zxt154 : z_MT[154]? = some zxm154 := rfl
set_option maxRecDepth 20000 in
theorem zxh154 : zk_ok1 lw_tbl zxm154 := ⟨List.mem_filter.mpr ⟨zxin5 _ (List.mem_of_getElem? (i := 136) rfl), rfl⟩, List.mem_filter.mpr ⟨List.mem_of_getElem? (i := 117) (by decide +kernel), rfl⟩, by decide +kernel, by decide +kernel⟩
theorem zxp155 : plainFor zxm155.1 = true := by decide +kernel
set_option maxRecDepth 20000 in
theorem zxt155 : z_MT[155]? = some zxm155 := rfl
set_option maxRecDepth 20000 in
theorem zxh155 : zk_ok1 lw_tbl zxm155 := ⟨List.mem_filter.mpr ⟨zxin5 _ (List.mem_of_getElem? (i := 143) rfl), rfl⟩, List.mem_filter.mpr ⟨List.mem_of_getElem? (i := 116) (by decide +kernel), rfl⟩, by decide +kernel, by decide +kernel⟩
theorem zxp156 : plainFor zxm156.1 = true := by decide +kernel
set_option maxRecDepth 20000 in
theorem zxt156 : z_MT[156]? = some zxm156 := rfl
set_option maxRecDepth 20000 in
theorem zxh156 : zk_ok1 lw_tbl zxm156 := ⟨List.mem_filter.mpr ⟨zxin5 _ (List.mem_of_getElem? (i := 147) rfl), rfl⟩, List.mem_filter.mpr ⟨List.mem_of_getElem? (i := 116) (by decide +kernel), rfl⟩, by decide +kernel, by decide +kernel⟩
theorem zxp157 : plainFor zxm157.1 = true := by decide +kernel
set_option maxRecDepth 20000 in
theorem zxt157 : z_MT[157]? = some zxm157 := rfl
set_option maxRecDepth 20000 in
theorem zxh157 : zk_ok1 lw_tbl zxm157 := ⟨List.mem_filter.mpr ⟨zxin5 _ (List.mem_of_getElem? (i := 151) rfl), rfl⟩, List.mem_filter.mpr ⟨List.mem_of_getElem? (i := 116) (by decide +kernel), rfl⟩, by decide +kernel, by decide +kernel⟩
theorem zxp158 : plainFor zxm158.1 = true := by decide +kernel
set_option maxRecDepth 20000 in
theorem zxt158 : z_MT[158]? = some zxm158 := rfl
set_option maxRecDepth 20000 in
theorem zxh158 : zk_ok1 lw_tbl zxm158 := ⟨List.mem_filter.mpr ⟨zxin5 _ (List.mem_of_getElem? (i := 156) rfl), rfl⟩, List.mem_filter.mpr ⟨List.mem_of_getElem? (i := 116) (by decide +kernel), rfl⟩, by decide +kernel, by decide +kernel⟩
theorem zxp159 : plainFor zxm159.1 = true := by decide +kernel
set_option maxRecDepth 20000 in
theorem zxt159 : z_MT[159]? = some zxm159 := rfl
set_option maxRecDepth 20000 in
theorem zxh159 : zk_ok1 lw_tbl zxm159 := ⟨List.mem_filter.mpr ⟨zxin5 _ (List.mem_of_getElem? (i := 162) rfl), rfl⟩, List.mem_filter.mpr ⟨List.mem_of_getElem? (i := 115) (by decide +kernel), rfl⟩, by decide +kernel, by decide +kernel⟩
theorem zxp160 : plainFor zxm160.1 = true := by decide +kernel
set_option maxRecDepth 20000 in
theorem zxt160 : z_MT[160]? = some zxm160 := rfl
set_option maxRecDepth 20000 in
theorem zxh160 : zk_ok1 lw_tbl zxm160 := ⟨List.mem_filter.mpr ⟨zxin5 _ (List.mem_of_getElem? (i := 166) rfl), rfl⟩, List.mem_filter.mpr ⟨List.mem_of_getElem? (i := 115) (by decide +kernel), rfl⟩, by decide +kernel, by decide +kernel⟩
theorem zxp161 : plainFor zxm161.1 = true := by decide +kernel
set_option maxRecDepth 20000 in
theorem zxt161 : z_MT[161]? = some zxm161 := rfl
set_option maxRecDepth 20000 in
theorem zxh161 : zk_ok1 lw_tbl zxm161 := ⟨List.mem_filter.mpr ⟨zxin5 _ (List.mem_of_getElem? (i := 172) rfl), rfl⟩, List.mem_filter.mpr ⟨List.mem_of_getElem? (i := 115) (by decide +kernel), rfl⟩, by decide +kernel, by decide +kernel⟩
theorem zxp162 : plainFor zxm162.1 = true := by decide +kernel
set_option maxRecDepth 20000 in
theorem zxt162 : z_MT[162]? = some zxm162 := rfl
set_option maxRecDepth 20000 in
theorem zxh162 : zk_ok1 lw_tbl zxm162 := ⟨List.mem_filter.mpr ⟨zxin5 _ (List.mem_of_getElem? (i := 176) rfl), rfl⟩, List.mem_filter.mpr ⟨List.mem_of_getElem? (i := 125) (by decide +kernel), rfl⟩, by decide +kernel, by decide +kernel⟩
theorem zxp163 : plainFor zxm163.1 = true := by decide +kernel
set_option maxRecDepth 20000 in
theorem zxt163 : z_MT[163]? = some zxm163 := rfl
set_option maxRecDepth 20000 in
theorem zxh163 : zk_ok1 lw_tbl zxm163 := ⟨List.mem_filter.mpr ⟨zxin5 _ (List.mem_of_getElem? (i := 180) rfl), rfl⟩, List.mem_filter.mpr ⟨List.mem_of_getElem? (i := 125) (by decide +kernel), rfl⟩, by decide +kernel, by decide +kernel⟩
theorem zxp164 : plainFor zxm164.1 = true := by decide +kernel
set_option maxRecDepth 20000 in
theorem zxt164 : z_MT[164]? = some zxm164 := rfl
set_option maxRecDepth 20000 in
theorem zxh164 : zk_ok1 lw_tbl zxm164 := ⟨List.mem_filter.mpr ⟨zxin5 _ (List.mem_of_getElem? (i := 185) rfl), rfl⟩, List.mem_filter.mpr ⟨List.mem_of_getElem? (i := 125) (by decide +kernel), rfl⟩, by decide +kernel, by decide +kernel⟩
theorem zxp165 : plainFor zxm165.1 = true := by decide +kernel
set_option maxRecDepth 20000 in
theorem zxt165 : z_MT[165]? = some zxm165 := rfl
set_option maxRecDepth 20000 in
theorem zxh165 : zk_ok1 lw_tbl zxm165 := ⟨List.mem_filter.mpr ⟨zxin5 _ (List.mem_of_getElem? (i := 191) rfl), rfl⟩, List.mem_filter.mpr ⟨List.mem_of_getElem? (i := 115) (by decide +kernel), rfl⟩, by decide +kernel, by decide +kernel⟩
theorem zxp166 : plainFor zxm166.1 = true := by decide +kernel
set_option maxRecDepth 20000 in
theorem zxt166 : z_MT[166]? = some zxm166 := rfl
set_option maxRecDepth 20000 in
theorem zxh166 : zk_ok1 lw_tbl zxm166 := ⟨List.mem_filter.mpr ⟨zxin5 _ (List.mem_of_getElem? (i := 195) rfl), rfl⟩, List.mem_filter.mpr ⟨List.mem_of_getElem? (i := 115) (by decide +kernel), rfl⟩, by decide +kernel, by decide +kernel⟩
theorem zxp167 : plainFor zxm167.1 = true := by decide +kernel
set_option maxRecDepth 20000 in
theorem zxt167 : z_MT[167]? = some zxm167 := rfl
set_option maxRecDepth 20000 in
theorem zxh167 : zk_ok1 lw_tbl zxm167 := ⟨List.mem_filter.mpr ⟨zxin5 _ (List.mem_of_getElem? (i := 199) rfl), rfl⟩, List.mem_filter.mpr ⟨List.mem_of_getElem? (i := 125) (by decide +kernel), rfl⟩, by decide +kernel, by decide +kernel⟩
theorem zxp168 : plainFor zxm168.1 = true := by decide +kernel
set_option maxRecDepth 20000 in
theorem zxt168 : z_MT[168]? = some zxm168 := rfl
set_option maxRecDepth 20000 in
theorem zxh168 : zk_ok1 lw_tbl zxm168 := ⟨List.mem_filter.mpr ⟨zxin5 _ (List.mem_of_getElem? (i := 204) rfl), rfl⟩, List.mem_filter.mpr ⟨List.mem_of_getElem? (i := 125) (by decide +kernel), rfl⟩, by decide +kernel, by decide +kernel⟩
theorem zxp169 : plainFor zxm169.1 = true := by decide +kernel
set_option maxRecDepth 20000 in
theorem zxt169 : z_MT[169]? = some zxm169 := rfl
set_option maxRecDepth 20000 in
theorem zxh169 : zk_ok1 lw_tbl zxm169 := ⟨List.mem_filter.mpr ⟨zxin5 _ (List.mem_of_getElem? (i := 210) rfl), rfl⟩, List.mem_filter.mpr ⟨List.mem_of_getElem? (i := 125) (by decide +kernel), rfl⟩, by decide +kernel, by decide +kernel⟩
theorem zxp170 : plainFor zxm170.1 = true := by decide +kernel
set_option maxRecDepth 20000 in
theorem zxt170 : z_MT[170]? = some zxm170 := rfl
set_option maxRecDepth 20000 in
theorem zxh170 : zk_ok1 lw_tbl zxm170 := ⟨List.mem_filter.mpr ⟨zxin5 _ (List.mem_of_getElem? (i := 216) rfl), rfl⟩, List.mem_filter.mpr ⟨List.mem_of_getElem? (i := 115) (by decide +kernel), rfl⟩, by decide +kernel, by decide +kernel⟩
theorem zxp171 : plainFor zxm171.1 = true := by decide +kernel
set_option maxRecDepth 20000 in
theorem zxt171 : z_MT[171]? = some zxm171 := rfl
set_option maxRecDepth 20000 in
theorem zxh171 : zk_ok1 lw_tbl zxm171 := ⟨List.mem_filter.mpr ⟨zxin5 _ (List.mem_of_getElem? (i := 220) rfl), rfl⟩, List.mem_filter.mpr ⟨List.mem_of_getElem? (i := 125) (by decide +kernel), rfl⟩, by decide +kernel, by decide +kernel⟩
theorem zxp172 : plainFor zxm172.1 = true := by decide +kernel
set_option maxRecDepth 20000 in
theorem zxt172 : z_MT[172]? = some zxm172 := rfl
set_option maxRecDepth 20000 in
theorem zxh172 : zk_ok1 lw_tbl zxm172 := ⟨List.mem_filter.mpr ⟨zxin5 _ (List.mem_of_getElem? (i := 224) rfl), rfl⟩, List.mem_filter.mpr ⟨List.mem_of_getElem? (i := 125) (by decide +kernel), rfl⟩, by decide +kernel, by decide +kernel⟩
theorem zxp173 : plainFor zxm173.1 = true := by decide +kernel
set_option maxRecDepth 20000 in
theorem zxt173 : z_MT[173]? = some zxm173 := rfl
set_option maxRecDepth 20000 in
theorem zxh173 : zk_ok1 lw_tbl zxm173 := ⟨List.mem_filter.mpr ⟨zxin5 _ (List.mem_of_getElem? (i := 228) rfl), rfl⟩, List.mem_filter.mpr ⟨List.mem_of_getElem? (i := 125) (by decide +kernel), rfl⟩, by decide +kernel, by decide +kernel⟩
theorem zxp174 : plainFor zxm174.1 = true := by decide +kernel
set_option maxRecDepth 20000 in
theorem zxt174 : z_MT[174]? = some zxm174 := rfl
set_option maxRecDepth 20000 in
theorem zxh174 : zk_ok1 lw_tbl zxm174 := ⟨List.mem_filter.mpr ⟨zxin5 _ (List.mem_of_getElem? (i := 233) rfl), rfl⟩, List.mem_filter.mpr ⟨List.mem_of_getElem? (i := 125) (by decide +kernel), rfl⟩, by decide +kernel, by decide +kernel⟩
theorem zxp175 : plainFor zxm175.1 = true := by decide +kernel
set_option maxRecDepth 20000 in
theorem zxt175 : z_MT[175]? = some zxm175 := rfl
set_option maxRecDepth 20000 in
theorem zxh175 : zk_ok1 lw_tbl zxm175 := ⟨List.mem_filter.mpr ⟨zxin5 _ (List.mem_of_getElem? (i := 237) rfl), rfl⟩, List.mem_filter.mpr ⟨List.mem_of_getElem? (i := 115) (by decide +kernel), rfl⟩, by decide +kernel, by decide +kernel⟩
theorem zxp176 : plainFor zxm176.1 = true := by decide +kernel
set_option maxRecDepth 20000 in
theorem zxt176 : z_MT[176]? = some zxm176 := rfl
set_option maxRecDepth 20000 in
theorem zxh176 : zk_ok1 lw_tbl zxm176 := ⟨List.mem_filter.mpr ⟨zxin6 _ (List.mem_of_getElem? (i := 1) rfl), rfl⟩, List.mem_filter.mpr ⟨List.mem_of_getElem? (i := 123) (by decide +kernel), rfl⟩, by decide +kernel, by decide +kernel⟩
theorem zxp177 : plainFor zxm177.1 = true := by decide +kernel
set_option maxRecDepth 20000 in
theorem zxt177 : z_MT[177]? = some zxm177 := rfl
set_option maxRecDepth 20000 in
theorem zxh177 : zk_ok1 lw_tbl zxm177 := ⟨List.mem_filter.mpr ⟨zxin6 _ (List.mem_of_getElem? (i := 5) rfl), rfl⟩, List.mem_filter.mpr ⟨List.mem_of_getElem? (i := 115) (by decide +kernel), rfl⟩, by decide +kernel, by decide +kernel⟩
theorem zxp178 : plainFor zxm178.1 = true := by decide +kernel
set_option maxRecDepth 20000 in
theorem zxt178 : z_MT[178]? = some zxm178 := rfl
set_option maxRecDepth 20000 in
theorem zxh178 : zk_ok1 lw_tbl zxm178 := ⟨List.mem_filter.mpr ⟨zxin6 _ (List.mem_of_getElem? (i := 9) rfl), rfl⟩, List.mem_filter.mpr ⟨List.mem_of_getElem? (i := 124) (by decide +kernel), rfl⟩, by decide +kernel, by decide +kernel⟩
theorem zxp179 : plainFor zxm179.1 = true := by decide +kernel
set_option maxRecDepth 20000 in
theorem zxt179 : z_MT[179]? = some zxm179 := rfl
set_option maxRecDepth 20000 in
theorem zxh179 : zk_ok1 lw_tbl zxm179 := ⟨List.mem_filter.mpr ⟨zxin6 _ (List.mem_of_getElem? (i := 13) rfl), rfl⟩, List.mem_filter.mpr ⟨List.mem_of_getElem? (i := 124) (by decide +kernel), rfl⟩, by decide +kernel, by decide +kernel⟩
theorem zxp180 : plainFor zxm180.1 = true := by decide +kernel
set_option maxRecDepth 20000 in
theorem zxt180 : z_MT[180]? = some zxm180 := rfl
set_option maxRecDepth 20000 in
theorem zxh180 : zk_ok1 lw_tbl zxm180 := ⟨List.mem_filter.mpr ⟨zxin6 _ (List.mem_of_getElem? (i := 16) rfl), rfl⟩, List.mem_filter.mpr ⟨List.mem_of_getElem? (i := 124) (by decide +kernel), rfl⟩, by decide +kernel, by decide +kernel⟩
theorem zxp181 : plainFor zxm181.1 = true := by decide +kernel
set_option maxRecDepth 20000 in
theorem zxt181 : z_MT[181]? = some zxm181 := rfl
set_option maxRecDepth 20000 in
theorem zxh181 : zk_ok1 lw_tbl zxm181 := ⟨List.mem_filter.mpr ⟨zxin6 _ (List.mem_of_getElem? (i := 22) rfl), rfl⟩, List.mem_filter.mpr ⟨List.mem_of_getElem? (i := 124) (by decide +kernel), rfl⟩, by decide +kernel, by decide +kernel⟩
theorem zxp182 : plainFor zxm182.1 = true := by decide +kernel
set_option maxRecDepth 20000 in
theorem zxt182 : z_MT[182]? = some zxm182 := rfl
set_option maxRecDepth 20000 in
theorem zxh182 : zk_ok1 lw_tbl zxm182 := ⟨List.mem_filter.mpr ⟨zxin6 _ (List.mem_of_getElem? (i := 26) rfl), rfl⟩, List.mem_filter.mpr ⟨List.mem_of_getElem? (i := 115) (by decide +kernel), rfl⟩, by decide +kernel, by decide +kernel⟩
theorem zxp183 : plainFor zxm183.1 = true := by decide +kernel
set_option maxRecDepth 20000 in
theorem zxt183 : z_MT[183]? = some zxm183 := rfl
set_option maxRecDepth 20000 in
theorem zxh183 : zk_ok1 lw_tbl zxm183 := ⟨List.mem_filter.mpr ⟨zxin6 _ (List.mem_of_getElem? (i := 30) rfl), rfl⟩, List.mem_filter.mpr ⟨List.mem_of_getElem? (i := 115) (by decide +kernel), rfl⟩, by decide +kernel, by decide +kernel⟩
theorem zxp184 : plainFor zxm184.1 = true := by decide +kernel
set_option maxRecDepth 20000 in
theorem zxt184 : z_MT[184]? = some zxm184 := rfl
set_option maxRecDepth 20000 in
theorem zxh184 : zk_ok1 lw_tbl zxm184 := ⟨List.mem_filter.mpr ⟨zxin6 _ (List.mem_of_getElem? (i := 34) rfl), rfl⟩, List.mem_filter.mpr ⟨List.mem_of_getElem? (i := 115) (by decide +kernel), rfl⟩, by decide +kernel, by decide +kernel⟩
theorem zxp185 : plainFor zxm185.1 = true := by decide +kernel
set_option maxRecDepth 20000 in
theorem zxt185 : z_MT[185]? = some zxm185 := rfl
set_option maxRecDepth 20000 in
theorem zxh185 : zk_ok1 lw_tbl zxm185 := ⟨List.mem_filter.mpr ⟨zxin6 _ (List.mem_of_getElem? (i := 39) rfl), rfl⟩, List.mem_filter.mpr ⟨List.mem_of_getElem? (i := 115) (by decide +kernel), rfl⟩, by decide +kernel, by decide +kernel⟩
theorem zxp186 : plainFor zxm186.1 = true := by decide +kernel
set_option maxRecDepth 20000 in
theorem zxt186 : z_MT[186]? = some zxm186 := rfl
set_option maxRecDepth 20000 in
theorem zxh186 : zk_ok1 lw_tbl zxm186 := ⟨List.mem_filter.mpr ⟨zxin6 _ (List.mem_of_getElem? (i := 43) rfl), rfl⟩, List.mem_filter.mpr ⟨List.mem_of_getElem? (i := 115) (by decide +kernel), rfl⟩, by decide +kernel, by decide +kernel⟩
theorem zxp187 : plainFor zxm187.1 = true := by decide +kernel
set_option maxRecDepth 20000 in
theorem zxt187 : z_MT[187]? = some zxm187 := rfl
set_option maxRecDepth 20000 in
theorem zxh187 : zk_ok1 lw_tbl zxm187 := ⟨List.mem_filter.mpr ⟨zxin6 _ (List.mem_of_getElem? (i := 47) rfl), rfl⟩, List.mem_filter.mpr ⟨List.mem_of_getElem? (i := 115) (by decide +kernel), rfl⟩, by decide +kernel, by decide +kernel⟩
theorem zxp188 : plainFor zxm188.1 = true := by decide +kernel
set_option maxRecDepth 20000 in
theorem zxt188 : z_MT[188]? = some zxm188 := rfl
set_option maxRecDepth 20000 in
theorem zxh188 : zk_ok1 lw_tbl zxm188 := ⟨List.mem_filter.mpr ⟨zxin6 _ (List.mem_of_getElem? (i := 52) rfl), rfl⟩, List.mem_filter.mpr ⟨List.mem_of_getElem? (i := 115) (by decide +kernel), rfl⟩, by decide +kernel, by decide +kernel⟩
theorem zxp189 : plainFor zxm189.1 = true := by decide +kernel
set_option maxRecDepth 20000 in
theorem zxt189 : z_MT[189]? = some zxm189 := rfl
set_option maxRecDepth 20000 in
theorem zxh189 : zk_ok1 lw_tbl zxm189 := ⟨List.mem_filter.mpr ⟨zxin6 _ (List.mem_of_getElem? (i := 57) rfl), rfl⟩, List.mem_filter.mpr ⟨List.mem_of_getElem? (i := 123) (by decide +kernel), rfl⟩, by decide +kernel, by decide +kernel⟩
theorem zxp190 : plainFor zxm190.1 = true := by decide +kernel
set_option maxRecDepth 20000 in
theorem zxt190 : z_MT[190]? = some zxm190 := rfl
set_option maxRecDepth 20000 in
theorem zxh190 : zk_ok1 lw_tbl zxm190 := ⟨List.mem_filter.mpr ⟨zxin6 _ (List.mem_of_getElem? (i := 61) rfl), rfl⟩, List.mem_filter.mpr ⟨List.mem_of_getElem? (i := 115) (by decide +kernel), rfl⟩, by decide +kernel, by decide +kernel⟩
theorem zxp191 : plainFor zxm191.1 = true := by decide +kernel
set_option maxRecDepth 20000 in
theorem zxt191 : z_MT[191]? = some zxm191 := rfl
set_option maxRecDepth 20000 in
theorem zxh191 : zk_ok1 lw_tbl zxm191 := ⟨List.mem_filter.mpr ⟨zxin6 _ (List.mem_of_getElem? (i := 66) rfl), rfl⟩, List.mem_filter.mpr ⟨List.mem_of_getElem? (i := 115) (by decide +kernel), rfl⟩, by decide +kernel, by decide +kernel⟩
theorem zxp192 : plainFor zxm192.1 = true := by decide +kernel
set_option maxRecDepth 20000 in
theorem zxt192 : z_MT[192]? = some zxm192 := rfl
set_option maxRecDepth 20000 in
theorem zxh192 : zk_ok1 lw_tbl zxm192 := ⟨List.mem_filter.mpr ⟨zxin6 _ (List.mem_of_getElem? (i := 70) rfl), rfl⟩, List.mem_filter.mpr ⟨List.mem_of_getElem? (i := 117) (by decide +kernel), rfl⟩, by decide +kernel, by decide +kernel⟩
theorem zxp193 : plainFor zxm193.1 = true := by decide +kernel
set_option maxRecDepth 20000 in
theorem zxt193 : z_MT[193]? = some zxm193 := rfl
set_option maxRecDepth 20000 in
theorem zxh193 : zk_ok1 lw_tbl zxm193 := ⟨List.mem_filter.mpr ⟨zxin6 _ (List.mem_of_getElem? (i := 75) rfl), rfl⟩, List.mem_filter.mpr ⟨List.mem_of_getElem? (i := 115) (by decide +kernel), rfl⟩, by decide +kernel, by decide +kernel⟩
theorem zxp194 : plainFor zxm194.1 = true := by decide +kernel
set_option maxRecDepth 20000 in
theorem zxt194 : z_MT[194]? = some zxm194 := rfl
set_option maxRecDepth 20000 in
theorem zxh194 : zk_ok1 lw_tbl zxm194 := ⟨List.mem_filter.mpr ⟨zxin6 _ (List.mem_of_getElem? (i := 79) rfl), rfl⟩, List.mem_filter.mpr ⟨List.mem_of_getElem? (i := 115) (by decide +kernel), rfl⟩, by decide +kernel, by decide +kernel⟩
theorem zxp195 : plainFor zxm195.1 = true := by decide +kernel
set_option maxRecDepth 20000 in
theorem zxt195 : z_MT[195]? = some zxm195 := rfl
set_option maxRecDepth 20000 in
theorem zxh195 : zk_ok1 lw_tbl zxm195 := ⟨List.mem_filter.mpr ⟨zxin6 _ (List.mem_of_getElem? (i := 83) rfl), rfl⟩, List.mem_filter.mpr ⟨List.mem_of_getElem? (i := 118) (by decide +kernel), rfl⟩, by decide +kernel, by decide +kernel⟩
theorem zxp196 : plainFor zxm196.1 = true := by decide +kernel
set_option maxRecDepth 20000 in
theorem zxt196 : z_MT[196]? = some zxm196 := rfl
set_option maxRecDepth 20000 in
theorem zxh196 : zk_ok1 lw_tbl zxm196 := ⟨List.mem_filter.mpr ⟨zxin6 _ (List.mem_of_getElem? (i := 88) rfl), rfl⟩, List.mem_filter.mpr ⟨List.mem_of_getElem? (i := 115) (by decide +kernel), rfl⟩, by decide +kernel, by decide +kernel⟩
theorem zxp197 : plainFor zxm197.1 = true := by decide +kernel
set_option maxRecDepth 20000 in
theorem zxt197 : z_MT[197]? = some zxm197 := rfl
set_option maxRecDepth 20000 in
theorem zxh197 : zk_ok1 lw_tbl zxm197 := ⟨List.mem_filter.mpr ⟨zxin6 _ (List.mem_of_getElem? (i := 92) rfl), rfl⟩, List.mem_filter.mpr ⟨List.mem_of_getElem? (i := 117) (by decide +kernel), rfl⟩, by decide +kernel, by decide +kernel⟩
theorem zxp198 : plainFor zxm198.1 = true := by decide +kernel
set_option maxRecDepth 20000 in
theorem zxt198 : z_MT[198]? = some zxm198 := rfl
set_option maxRecDepth 20000 in
theorem zxh198 : zk_ok1 lw_tbl zxm198 := ⟨List.mem_filter.mpr ⟨zxin6 _ (List.mem_of_getElem? (i := 98) rfl), rfl⟩, List.mem_filter.mpr ⟨List.mem_of_getElem? (i := 128) (by decide +kernel), rfl⟩, by decide +kernel, by decide +kernel⟩
theorem zxp199 : plainFor zxm199.1 = true := by decide +kernel
set_option maxRecDepth 20000 in
theorem zxt199 : z_MT[199]? = some zxm199 := rfl
set_option maxRecDepth 20000 in
theorem zxh199 : zk_ok1 lw_tbl zxm199 := ⟨List.mem_filter.mpr ⟨zxin7 _ (List.mem_of_getElem? (i := 56) rfl), rfl⟩, List.mem_filter.mpr ⟨List.mem_of_getElem? (i := 128) (by decide +kernel), rfl⟩, by decide +kernel, by decide +kernel⟩
theorem zxp200 : plainFor zxm200.1 = true := by decide +kernel
set_option maxRecDepth 20000 in
theorem zxt200 : z_MT[200]? = some zxm200 := rfl
set_option maxRecDepth 20000 in
theorem zxh200 : zk_ok1 lw_tbl zxm200 := ⟨List.mem_filter.mpr ⟨zxin7 _ (List.mem_of_getElem? (i := 59) rfl), rfl⟩, List.mem_filter.mpr ⟨List.mem_of_getElem? (i := 128) (by decide +kernel), rfl⟩, by decide +kernel, by decide +kernel⟩
theorem zxp201 : plainFor zxm201.1 = true := by decide +kernel
set_option maxRecDepth 20000 in
theorem zxt201 : z_MT[201]? = some zxm201 := rfl
set_option maxRecDepth 20000 in
theorem zxh201 : zk_ok1 lw_tbl zxm201 := ⟨List.mem_filter.mpr ⟨zxin7 _ (List.mem_of_getElem? (i := 62) rfl), rfl⟩, List.mem_filter.mpr ⟨List.mem_of_getElem? (i := 128) (by decide +kernel), rfl⟩, by decide +kernel, by decide +kernel⟩
theorem zxp202 : plainFor zxm202.1 = true := by decide +kernel
set_option maxRecDepth 20000 in
theorem zxt202 : z_MT[202]? = some zxm202 := rfl
set_option maxRecDepth 20000 in
theorem zxh202 : zk_ok1 lw_tbl zxm202 := ⟨List.mem_filter.mpr ⟨zxin7 _ (List.mem_of_getElem? (i := 66) rfl), rfl⟩, List.mem_filter.mpr ⟨List.mem_of_getElem? (i := 128) (by decide +kernel), rfl⟩, by decide +kernel, by decide +kernel⟩
theorem zxp203 : plainFor zxm203.1 = true := by decide +kernel
set_option maxRecDepth 20000 in
theorem zxt203 : z_MT[203]? = some zxm203 := rfl
set_option maxRecDepth 20000 in
theorem zxh203 : zk_ok1 lw_tbl zxm203 := ⟨List.mem_filter.mpr ⟨zxin7 _ (List.mem_of_getElem? (i := 70) rfl), rfl⟩, List.mem_filter.mpr ⟨List.mem_of_getElem? (i := 128) (by decide +kernel), rfl⟩, by decide +kernel, by decide +kernel⟩
theorem zxp204 : plainFor zxm204.1 = true := by decide +kernel
set_option maxRecDepth 20000 in
theorem zxt204 : z_MT[204]? = some zxm204 := rfl
set_option maxRecDepth 20000 in
theorem zxh204 : zk_ok1 lw_tbl zxm204 := ⟨List.mem_filter.mpr ⟨zxin7 _ (List.mem_of_getElem? (i := 73) rfl), rfl⟩, List.mem_filter.mpr ⟨List.mem_of_getElem? (i := 128) (by decide +kernel), rfl⟩, by decide +kernel, by decide +kernel⟩
theorem zxp205 : plainFor zxm205.1 = true := by decide +kernel
set_option maxRecDepth 20000 in
theorem zxt205 : z_MT[205]? = some zxm205 := rfl
set_option maxRecDepth 20000 in
theorem zxh205 : zk_ok1 lw_tbl zxm205 := ⟨List.mem_filter.mpr ⟨zxin7 _ (List.mem_of_getElem? (i := 77) rfl), rfl⟩, List.mem_filter.mpr ⟨List.mem_of_getElem? (i := 128) (by decide +kernel), rfl⟩, by decide +kernel, by decide +kernel⟩
theorem zxp206 : plainFor zxm206.1 = true := by decide +kernel
set_option maxRecDepth 20000 in
theorem zxt206 : z_MT[206]? = some zxm206 := rfl
set_option maxRecDepth 20000 in
theorem zxh206 : zk_ok1 lw_tbl zxm206 := ⟨List.mem_filter.mpr ⟨zxin7 _ (List.mem_of_getElem? (i := 81) rfl), rfl⟩, List.mem_filter.mpr ⟨List.mem_of_getElem? (i := 128) (by decide +kernel), rfl⟩, by decide +kernel, by decide +kernel⟩
theorem zxp207 : plainFor zxm207.1 = true := by decide +kernel
set_option maxRecDepth 20000 in
theorem zxt207 : z_MT[207]? = some zxm207 := rfl
set_option maxRecDepth 20000 in
theorem zxh207 : zk_ok1 lw_tbl zxm207 := ⟨List.mem_filter.mpr ⟨zxin7 _ (List.mem_of_getElem? (i := 85) rfl), rfl⟩, List.mem_filter.mpr ⟨List.mem_of_getElem? (i := 128) (by decide +kernel), rfl⟩, by decide +kernel, by decide +kernel⟩
theorem zxp208 : plainFor zxm208.1 = true := by decide +kernel
set_option maxRecDepth 20000 in
theorem zxt208 : z_MT[208]? = some zxm208 := rfl
set_option maxRecDepth 20000 in
theorem zxh208 : zk_ok1 lw_tbl zxm208 := ⟨List.mem_filter.mpr ⟨zxin7 _ (List.mem_of_getElem? (i := 90) rfl), rfl⟩, List.mem_filter.mpr ⟨List.mem_of_getElem? (i := 128) (by decide +kernel), rfl⟩, by decide +kernel, by decide +kernel⟩
theorem zxp209 : plainFor zxm209.1 = true := by decide +kernel
set_option maxRecDepth 20000 in
theorem zxt209 : z_MT[209]? = some zxm209 := rfl
set_option maxRecDepth 20000 in
theorem zxh209 : zk_ok1 lw_tbl zxm209 := ⟨List.mem_filter.mpr ⟨zxin7 _ (List.mem_of_getElem? (i := 94) rfl), rfl⟩, List.mem_filter.mpr ⟨List.mem_of_getElem? (i := 128) (by decide +kernel), rfl⟩, by decide +kernel, by decide +kernel⟩
theorem zxp210 : plainFor zxm210.1 = true := by decide +kernel
set_option maxRecDepth 20000 in
theorem zxt210 : z_MT[210]? = some zxm210 := rfl
set_option maxRecDepth 20000 in
theorem zxh210 : zk_ok1 lw_tbl zxm210 := ⟨List.mem_filter.mpr ⟨zxin7 _ (List.mem_of_getElem? (i := 98) rfl), rfl⟩, List.mem_filter.mpr ⟨List.mem_of_getElem? (i := 128) (by decide +kernel), rfl⟩, by decide +kernel, by decide +kernel⟩
theorem zxp211 : plainFor zxm211.1 = true := by decide +kernel
set_option maxRecDepth 20000 in
theorem zxt211 : z_MT[211]? = some zxm211 := rfl
set_option maxRecDepth 20000 in
theorem zxh211 : zk_ok1 lw_tbl zxm211 := ⟨List.mem_filter.mpr ⟨zxin7 _ (List.mem_of_getElem? (i := 102) rfl), rfl⟩, List.mem_filter.mpr ⟨List.mem_of_getElem? (i := 128) (by decide +kernel), rfl⟩, by decide +kernel, by decide +kernel⟩
theorem zxp212 : plainFor zxm212.1 = true := by decide +kernel
set_option maxRecDepth 20000 in
theorem zxt212 : z_MT[212]? = some zxm212 := rfl
set_option maxRecDepth 20000 in
theorem zxh212 : zk_ok1 lw_tbl zxm212 := ⟨List.mem_filter.mpr ⟨zxin7 _ (List.mem_of_getElem? (i := 106) rfl), rfl⟩, List.mem_filter.mpr ⟨List.mem_of_getElem? (i := 128) (by decide +kernel), rfl⟩, by decide +kernel, by decide +kernel⟩
theorem zxp213 : plainFor zxm213.1 = true := by decide +kernel
set_option maxRecDepth 20000 in
theorem zxt213 : z_MT[213]? = some zxm213 := rfl
set_option maxRecDepth 20000 in
theorem zxh213 : zk_ok1 lw_tbl zxm213 := ⟨List.mem_filter.mpr ⟨zxin7 _ (List.mem_of_getElem? (i := 110) rfl), rfl⟩, List.mem_filter.mpr ⟨List.mem_of_getElem? (i := 128) (by decide +kernel), rfl⟩, by decide +kernel, by decide +kernel⟩
theorem zxp214 : plainFor zxm214.1 = true := by decide +kernel
set_option maxRecDepth 20000 in
theorem zxt214 : z_MT[214]? = some zxm214 := rfl
set_option maxRecDepth 20000 in
theorem zxh214 : zk_ok1 lw_tbl zxm214 := ⟨List.mem_filter.mpr ⟨zxin7 _ (List.mem_of_getElem? (i := 114) rfl), rfl⟩, List.mem_filter.mpr ⟨List.mem_of_getElem? (i := 128) (by decide +kernel), rfl⟩, by decide +kernel, by decide +kernel⟩
theorem zxp215 : plainFor zxm215.1 = true := by decide +kernel
set_option maxRecDepth 20000 in
theorem zxt215 : z_MT[215]? = some zxm215 := rfl
set_option maxRecDepth 20000 in
theorem zxh215 : zk_ok1 lw_tbl zxm215 := ⟨List.mem_filter.mpr ⟨zxin7 _ (List.mem_of_getElem? (i := 118) rfl), rfl⟩, List.mem_filter.mpr ⟨List.mem_of_getElem? (i := 128) (by decide +kernel), rfl⟩, by decide +kernel, by decide +kernel⟩
theorem zxp216 : plainFor zxm216.1 = true := by decide +kernel
set_option maxRecDepth 20000 in
theorem zxt216 : z_MT[216]? = some zxm216 := rfl
set_option maxRecDepth 20000 in
theorem zxh216 : zk_ok1 lw_tbl zxm216 := ⟨List.mem_filter.mpr ⟨zxin7 _ (List.mem_of_getElem? (i := 122) rfl), rfl⟩, List.mem_filter.mpr ⟨List.mem_of_getElem? (i := 128) (by decide +kernel), rfl⟩, by decide +kernel, by decide +kernel⟩
theorem zxp217 : plainFor zxm217.1 = true := by decide +kernel
set_option maxRecDepth 20000 in
theorem zxt217 : z_MT[217]? = some zxm217 := rfl
set_option maxRecDepth 20000 in
theorem zxh217 : zk_ok1 lw_tbl zxm217 := ⟨List.mem_filter.mpr ⟨zxin7 _ (List.mem_of_getElem? (i := 126) rfl), rfl⟩, List.mem_filter.mpr ⟨List.mem_of_getElem? (i := 128) (by decide +kernel), rfl⟩, by decide +kernel, by decide +kernel⟩
theorem zxp218 : plainFor zxm218.1 = true := by decide +kernel
set_option maxRecDepth 20000 in
theorem zxt218 : z_MT[218]? = some zxm218 := rfl
set_option maxRecDepth 20000 in
theorem zxh218 : zk_ok1 lw_tbl zxm218 := ⟨List.mem_filter.mpr ⟨zxin7 _ (List.mem_of_getElem? (i := 129) rfl), rfl⟩, List.mem_filter.mpr ⟨List.mem_of_getElem? (i := 128) (by decide +kernel), rfl⟩, by decide +kernel, by decide +kernel⟩
theorem zxp219 : plainFor zxm219.1 = true := by decide +kernel
set_option maxRecDepth 20000 in
theorem zxt219 : z_MT[219]? = some zxm219 := rfl
set_option maxRecDepth 20000 in
theorem zxh219 : zk_ok1 lw_tbl zxm219 := ⟨List.mem_filter.mpr ⟨zxin7 _ (List.mem_of_getElem? (i := 133) rfl), rfl⟩, List.mem_filter.mpr ⟨List.mem_of_getElem? (i := 128) (by decide +kernel), rfl⟩, by decide +kernel, by decide +kernel⟩
theorem zxp220 : plainFor zxm220.1 = true := by decide +kernel
set_option maxRecDepth 20000 in
theorem zxt220 : z_MT[220]? = some zxm220 := rfl
set_option maxRecDepth 20000 in
theorem zxh220 : zk_ok1 lw_tbl zxm220 := ⟨List.mem_filter.mpr ⟨zxin7 _ (List.mem_of_getElem? (i := 137) rfl), rfl⟩, List.mem_filter.mpr ⟨List.mem_of_getElem? (i := 128) (by decide +kernel), rfl⟩, by decide +kernel, by decide +kernel⟩
theorem zxp221 : plainFor zxm221.1 = true := by decide +kernel
set_option maxRecDepth 20000 in
theorem zxt221 : z_MT[221]? = some zxm221 := rfl
set_option maxRecDepth 20000 in
theorem zxh221 : zk_ok1 lw_tbl zxm221 := ⟨List.mem_filter.mpr ⟨zxin7 _ (List.mem_of_getElem? (i := 141) rfl), rfl⟩, List.mem_filter.mpr ⟨List.mem_of_getElem? (i := 128) (by decide +kernel), rfl⟩, by decide +kernel, by decide +kernel⟩
theorem zxp222 : plainFor zxm222.1 = true := by decide +kernel
set_option maxRecDepth 20000 in
theorem zxt222 : z_MT[222]? = some zxm222 := rfl
set_option maxRecDepth 20000 in
theorem zxh222 : zk_ok1 lw_tbl zxm222 := ⟨List.mem_filter.mpr ⟨zxin7 _ (List.mem_of_getElem? (i := 145) rfl), rfl⟩, List.mem_filter.mpr ⟨List.mem_of_getElem? (i := 128) (by decide +kernel), rfl⟩, by decide +kernel, by decide +kernel⟩
theorem zxp223 : plainFor zxm223.1 = true := by decide +kernel
set_option maxRecDepth 20000 in
theorem zxt223 : z_MT[223]? = some zxm223 := rfl
set_option maxRecDepth 20000 in
theorem zxh223 : zk_ok1 lw_tbl zxm223 := ⟨List.mem_filter.mpr ⟨zxin7 _ (List.mem_of_getElem? (i := 150) rfl), rfl⟩, List.mem_filter.mpr ⟨List.mem_of_getElem? (i := 128) (by decide +kernel), rfl⟩, by decide +kernel, by decide +kernel⟩
theorem zxp224 : plainFor zxm224.1 = true := by decide +kernel
set_option maxRecDepth 20000 in
theorem zxt224 : z_MT[224]? = some zxm224 := rfl
set_option maxRecDepth 20000 in
theorem zxh224 : zk_ok1 lw_tbl zxm224 := ⟨List.mem_filter.mpr ⟨zxin7 _ (List.mem_of_getElem? (i := 154) rfl), rfl⟩, List.mem_filter.mpr ⟨List.mem_of_getElem? (i := 128) (by decide +kernel), rfl⟩, by decide +kernel, by decide +kernel⟩
theorem zxp225 : plainFor zxm225.1 = true := by decide +kernel
set_option maxRecDepth 20000 in
theorem zxt225 : z_MT[225]? = some zxm225 := rfl
set_option maxRecDepth 20000 in
theorem zxh225 : zk_ok1 lw_tbl zxm225 := ⟨List.mem_filter.mpr ⟨zxin7 _ (List.mem_of_getElem? (i := 158) rfl), rfl⟩, List.mem_filter.mpr ⟨List.mem_of_getElem? (i := 128) (by decide +kernel), rfl⟩, by decide +kernel, by decide +kernel⟩
theorem zxp226 : plainFor zxm226.1 = true := by decide +kernel
set_option maxRecDepth 20000 in
theorem zxt226 : z_MT[226]? = some zxm226 := rfl
set_option maxRecDepth 20000 in
theorem zxh226 : zk_ok1 lw_tbl zxm226 := ⟨List.mem_filter.mpr ⟨zxin7 _ (List.mem_of_getElem? (i := 161) rfl), rfl⟩, List.mem_filter.mpr ⟨List.mem_of_getElem? (i := 128) (by decide +kernel), rfl⟩, by decide +kernel, by decide +kernel⟩
theorem zxp227 : plainFor zxm227.1 = true := by decide +kernel
set_option maxRecDepth 20000 in
theorem zxt227 : z_MT[227]? = some zxm227 := rfl
set_option maxRecDepth 20000 in
theorem zxh227 : zk_ok1 lw_tbl zxm227 := ⟨List.mem_filter.mpr ⟨zxin7 _ (List.mem_of_getElem? (i := 164) rfl), rfl⟩, List.mem_filter.mpr ⟨List.mem_of_getElem? (i := 128) (by decide +kernel), rfl⟩, by decide +kernel, by decide +kernel⟩
theorem zxp228 : plainFor zxm228.1 = true := by decide +kernel
set_option maxRecDepth 20000 in
theorem zxt228 : z_MT[228]? = some zxm228 := rfl
set_option maxRecDepth 20000 in
theorem zxh228 : zk_ok1 lw_tbl zxm228 := ⟨List.mem_filter.mpr ⟨zxin7 _ (List.mem_of_getElem? (i := 168) rfl), rfl⟩, List.mem_filter.mpr ⟨List.mem_of_getElem? (i := 128) (by decide +kernel), rfl⟩, by decide +kernel, by decide +kernel⟩
theorem zxp229 : plainFor zxm229.1 = true := by decide +kernel
set_option maxRecDepth 20000 in
theorem zxt229 : z_MT[229]? = some zxm229 := rfl
set_option maxRecDepth 20000 in
theorem zxh229 : zk_ok1 lw_tbl zxm229 := ⟨List.mem_filter.mpr ⟨zxin7 _ (List.mem_of_getElem? (i := 172) rfl), rfl⟩, List.mem_filter.mpr ⟨List.mem_of_getElem? (i := 128) (by decide +kernel), rfl⟩, by decide +kernel, by decide +kernel⟩
theorem zxp230 : plainFor zxm230.1 = true := by decide +kernel
set_option maxRecDepth 20000 in
theorem zxt230 : z_MT[230]? = some zxm230 := rfl
set_option maxRecDepth 20000 in
theorem zxh230 : zk_ok1 lw_tbl zxm230 := ⟨List.mem_filter.mpr ⟨zxin7 _ (List.mem_of_getElem? (i := 176) rfl), rfl⟩, List.mem_filter.mpr ⟨List.mem_of_getElem? (i := 128) (by decide +kernel), rfl⟩, by decide +kernel, by decide +kernel⟩
theorem zxp231 : plainFor zxm231.1 = true := by decide +kernel
set_option maxRecDepth 20000 in
theorem zxt231 : z_MT[231]? = some zxm231 := rfl
set_option maxRecDepth 20000 in
theorem zxh231 : zk_ok1 lw_tbl zxm231 := ⟨List.mem_filter.mpr ⟨zxin7 _ (List.mem_of_getElem? (i := 180) rfl), rfl⟩, List.mem_filter.mpr ⟨List.mem_of_getElem? (i := 128) (by decide +kernel), rfl⟩, by decide +kernel, by decide +kernel⟩
theorem zxp232 : plainFor zxm232.1 = true := by decide +kernel
set_option maxRecDepth 20000 in
theorem zxt232 : z_MT[232]? = some zxm232 := rfl
set_option maxRecDepth 20000 in
theorem zxh232 : zk_ok1 lw_tbl zxm232 := ⟨List.mem_filter.mpr ⟨zxin7 _ (List.mem_of_getElem? (i := 184) rfl), rfl⟩, List.mem_filter.mpr ⟨List.mem_of_getElem? (i := 128) (by decide +kernel), rfl⟩, by decide +kernel, by decide +kernel⟩
theorem zxp233 : plainFor zxm233.1 = true := by decide +kernel
set_option maxRecDepth 20000 in
theorem zxt233 : z_MT[233]? = some zxm233 := rfl
set_option maxRecDepth 20000 in
theorem zxh233 : zk_ok1 lw_tbl zxm233 := ⟨List.mem_filter.mpr ⟨zxin7 _ (List.mem_of_getElem? (i := 188) rfl), rfl⟩, List.mem_filter.mpr ⟨List.mem_of_getElem? (i := 128) (by decide +kernel), rfl⟩, by decide +kernel, by decide +kernel⟩
theorem zxp234 : plainFor zxm234.1 = true := by decide +kernel
set_option maxRecDepth 20000 in
theorem zxt234 : z_MT[234]? = some zxm234 := rfl
set_option maxRecDepth 20000 in
theorem zxh234 : zk_ok1 lw_tbl zxm234 := ⟨List.mem_filter.mpr ⟨zxin7 _ (List.mem_of_getElem? (i := 192) rfl), rfl⟩, List.mem_filter.mpr ⟨List.mem_of_getElem? (i := 128) (by decide +kernel), rfl⟩, by decide +kernel, by decide +kernel⟩
theorem zxp235 : plainFor zxm235.1 = true := by decide +kernel
set_option maxRecDepth 20000 in
theorem zxt235 : z_MT[235]? = some zxm235 := rfl
set_option maxRecDepth 20000 in
theorem zxh235 : zk_ok1 lw_tbl zxm235 := ⟨List.mem_filter.mpr ⟨zxin7 _ (List.mem_of_getElem? (i := 196) rfl), rfl⟩, List.mem_filter.mpr ⟨List.mem_of_getElem? (i := 128) (by decide +kernel), rfl⟩, by decide +kernel, by decide +kernel⟩
theorem zxp236 : plainFor zxm236.1 = true := by decide +kernel
set_option maxRecDepth 20000 in
theorem zxt236 : z_MT[236]? = some zxm236 := rfl
set_option maxRecDepth 20000 in
theorem zxh236 : zk_ok1 lw_tbl zxm236 := ⟨List.mem_filter.mpr ⟨zxin7 _ (List.mem_of_getElem? (i := 200) rfl), rfl⟩, List.mem_filter.mpr ⟨List.mem_of_getElem? (i := 128) (by decide +kernel), rfl⟩, by decide +kernel, by decide +kernel⟩
theorem zxp237 : plainFor zxm237.1 = true := by decide +kernel
set_option maxRecDepth 20000 in
theorem zxt237 : z_MT[237]? = some zxm237 := rfl
set_option maxRecDepth 20000 in
theorem zxh237 : zk_ok1 lw_tbl zxm237 := ⟨List.mem_filter.mpr ⟨zxin7 _ (List.mem_of_getElem? (i := 204) rfl), rfl⟩, List.mem_filter.mpr ⟨List.mem_of_getElem? (i := 128) (by decide +kernel), rfl⟩, by decide +kernel, by decide +kernel⟩
theorem zxp238 : plainFor zxm238.1 = true := by decide +kernel
set_option maxRecDepth 20000 in
theorem zxt238 : z_MT[238]? = some zxm238 := rfl
set_option maxRecDepth 20000 in
theorem zxh238 : zk_ok1 lw_tbl zxm238 := ⟨List.mem_filter.mpr ⟨zxin7 _ (List.mem_of_getElem? (i := 208) rfl), rfl⟩, List.mem_filter.mpr ⟨List.mem_of_getElem? (i := 128) (by decide +kernel), rfl⟩, by decide +kernel, by decide +kernel⟩
theorem zxp239 : plainFor zxm239.1 = true := by decide +kernel
set_option maxRecDepth 20000 in
theorem zxt239 : z_MT[239]? = some zxm239 := rfl
set_option maxRecDepth 20000 in
theorem zxh239 : zk_ok1 lw_tbl zxm239 := ⟨List.mem_filter.mpr ⟨zxin7 _ (List.mem_of_getElem? (i := 212) rfl), rfl⟩, List.mem_filter.mpr ⟨List.mem_of_getElem? (i := 128) (by decide +kernel), rfl⟩, by decide +kernel, by decide +kernel⟩
theorem zxp240 : plainFor zxm240.1 = true := by decide +kernel
set_option maxRecDepth 20000 in
theorem zxt240 : z_MT[240]? = some zxm240 := rfl
set_option maxRecDepth 20000 in
theorem zxh240 : zk_ok1 lw_tbl zxm240 := ⟨List.mem_filter.mpr ⟨zxin7 _ (List.mem_of_getElem? (i := 216) rfl), rfl⟩, List.mem_filter.mpr ⟨List.mem_of_getElem? (i := 128) (by decide +kernel), rfl⟩, by decide +kernel, by decide +kernel⟩
theorem zxp241 : plainFor zxm241.1 = true := by decide +kernel
set_option maxRecDepth 20000 in
theorem zxt241 : z_MT[241]? = some zxm241 := rfl
set_option maxRecDepth 20000 in
theorem zxh241 : zk_ok1 lw_tbl zxm241 := ⟨List.mem_filter.mpr ⟨zxin7 _ (List.mem_of_getElem? (i := 220) rfl), rfl⟩, List.mem_filter.mpr ⟨List.mem_of_getElem? (i := 128) (by decide +kernel), rfl⟩, by decide +kernel, by decide +kernel⟩
theorem zxp242 : plainFor zxm242.1 = true := by decide +kernel
set_option maxRecDepth 20000 in
theorem zxt242 : z_MT[242]? = some zxm242 := rfl
set_option maxRecDepth 20000 in
theorem zxh242 : zk_ok1 lw_tbl zxm242 := ⟨List.mem_filter.mpr ⟨zxin7 _ (List.mem_of_getElem? (i := 223) rfl), rfl⟩, List.mem_filter.mpr ⟨List.mem_of_getElem? (i := 128) (by decide +kernel), rfl⟩, by decide +kernel, by decide +kernel⟩
theorem zxp243 : plainFor zxm243.1 = true := by decide +kernel
set_option maxRecDepth 20000 in
theorem zxt243 : z_MT[243]? = some zxm243 := rfl
set_option maxRecDepth 20000 in
theorem zxh243 : zk_ok1 lw_tbl zxm243 := ⟨List.mem_filter.mpr ⟨zxin7 _ (List.mem_of_getElem? (i := 226) rfl), rfl⟩, List.mem_filter.mpr ⟨List.mem_of_getElem? (i := 128) (by decide +kernel), rfl⟩, by decide +kernel, by decide +kernel⟩
theorem zxp244 : plainFor zxm244.1 = true := by decide +kernel
set_option maxRecDepth 20000 in
theorem zxt244 : z_MT[244]? = some zxm244 := rfl
set_option maxRecDepth 20000 in
theorem zxh244 : zk_ok1 lw_tbl zxm244 := ⟨List.mem_filter.mpr ⟨zxin7 _ (List.mem_of_getElem? (i := 230) rfl), rfl⟩, List.mem_filter.mpr ⟨List.mem_of_getElem? (i := 128) (by decide +kernel), rfl⟩, by decide +kernel, by decide +kernel⟩
theorem zxp245 : plainFor zxm245.1 = true := by decide +kernel
set_option maxRecDepth 20000 in
theorem zxt245 : z_MT[245]? = some zxm245 := rfl
set_option maxRecDepth 20000 in
theorem zxh245 : zk_ok1 lw_tbl zxm245 := ⟨List.mem_filter.mpr ⟨zxin7 _ (List.mem_of_getElem? (i := 234) rfl), rfl⟩, List.mem_filter.mpr ⟨List.mem_of_getElem? (i := 128) (by decide +kernel), rfl⟩, by decide +kernel, by decide +kernel⟩
theorem zxp246 : plainFor zxm246.1 = true := by decide +kernel
set_option maxRecDepth 20000 in
theorem zxt246 : z_MT[246]? = some zxm246 := rfl
set_option maxRecDepth 20000 in
theorem zxh246 : zk_ok1 lw_tbl zxm246 := ⟨List.mem_filter.mpr ⟨zxin7 _ (List.mem_of_getElem? (i := 238) rfl), rfl⟩, List.mem_filter.mpr ⟨List.mem_of_getElem? (i := 128) (by decide +kernel), rfl⟩, by decide +kernel, by decide +kernel⟩
theorem zxp247 : plainFor zxm247.1 = true := by decide +kernel
set_option maxRecDepth 20000 in
theorem zxt247 : z_MT[247]? = some zxm247 := rfl
set_option maxRecDepth 20000 in
theorem zxh247 : zk_ok1 lw_tbl zxm247 := ⟨List.mem_filter.mpr ⟨zxin8 _ (List.mem_of_getElem? (i := 1) rfl), rfl⟩, List.mem_filter.mpr ⟨List.mem_of_getElem? (i := 128) (by decide +kernel), rfl⟩, by decide +kernel, by decide +kernel⟩
theorem zxp248 : plainFor zxm248.1 = true := by decide +kernel
set_option maxRecDepth 20000 in
theorem zxt248 : z_MT[248]? = some zxm248 := rfl
set_option maxRecDepth 20000 in
theorem zxh248 : zk_ok1 lw_tbl zxm248 := ⟨List.mem_filter.mpr ⟨zxin8 _ (List.mem_of_getElem? (i := 5) rfl), rfl⟩, List.mem_filter.mpr ⟨List.mem_of_getElem? (i := 128) (by decide +kernel), rfl⟩, by decide +kernel, by decide +kernel⟩
theorem zxp249 : plainFor zxm249.1 = true := by decide +kernel
set_option maxRecDepth 20000 in
theorem zxt249 : z_MT[249]? = some zxm249 := rfl
set_option maxRecDepth 20000 in
theorem zxh249 : zk_ok1 lw_tbl zxm249 := ⟨List.mem_filter.mpr ⟨zxin8 _ (List.mem_of_getElem? (i := 9) rfl), rfl⟩, List.mem_filter.mpr ⟨List.mem_of_getElem? (i := 128) (by decide +kernel), rfl⟩, by decide +kernel, by decide +kernel⟩
theorem zxp250 : plainFor zxm250.1 = true := by decide +kernel
set_option maxRecDepth 20000 in
theorem zxt250 : z_MT[250]? = some zxm250 := rfl
set_option maxRecDepth 20000 in
theorem zxh250 : zk_ok1 lw_tbl zxm250 := ⟨List.mem_filter.mpr ⟨zxin8 _ (List.mem_of_getElem? (i := 12) rfl), rfl⟩, List.mem_filter.mpr ⟨List.mem_of_getElem? (i := 128) (by decide +kernel), rfl⟩, by decide +kernel, by decide +kernel⟩
theorem zxp251 : plainFor zxm251.1 = true := by decide +kernel
set_option maxRecDepth 20000 in
theorem zxt251 : z_MT[251]? = some zxm251 := rfl
set_option maxRecDepth 20000 in
theorem zxh251 : zk_ok1 lw_tbl zxm251 := ⟨List.mem_filter.mpr ⟨zxin8 _ (List.mem_of_getElem? (i := 16) rfl), rfl⟩, List.mem_filter.mpr ⟨List.mem_of_getElem? (i := 128) (by decide +kernel), rfl⟩, by decide +kernel, by decide +kernel⟩
theorem zxp252 : plainFor zxm252.1 = true := by decide +kernel
set_option maxRecDepth 20000 in
theorem zxt252 : z_MT[252]? = some zxm252 := rfl
set_option maxRecDepth 20000 in
theorem zxh252 : zk_ok1 lw_tbl zxm252 := ⟨List.mem_filter.mpr ⟨zxin8 _ (List.mem_of_getElem? (i := 20) rfl), rfl⟩, List.mem_filter.mpr ⟨List.mem_of_getElem? (i := 128) (by decide +kernel), rfl⟩, by decide +kernel, by decide +kernel⟩
theorem zxp253 : plainFor zxm253.1 = true := by decide +kernel
set_option maxRecDepth 20000 in
theorem zxt253 : z_MT[253]? = some zxm253 := rfl
set_option maxRecDepth 20000 in
theorem zxh253 : zk_ok1 lw_tbl zxm253 := ⟨List.mem_filter.mpr ⟨zxin8 _ (List.mem_of_getElem? (i := 24) rfl), rfl⟩, List.mem_filter.mpr ⟨List.mem_of_getElem? (i := 128) (by decide +kernel), rfl⟩, by decide +kernel, by decide +kernel⟩
theorem zxp254 : plainFor zxm254.1 = true := by decide +kernel
set_option maxRecDepth 20000 in
theorem zxt254 : z_MT[254]? = some zxm254 := rfl
set_option maxRecDepth 20000 in
theorem zxh254 : zk_ok1 lw_tbl zxm254 := ⟨List.mem_filter.mpr ⟨zxin8 _ (List.mem_of_getElem? (i := 28) rfl), rfl⟩, List.mem_filter.mpr ⟨List.mem_of_getElem? (i := 128) (by decide +kernel), rfl⟩, by decide +kernel, by decide +kernel⟩
theorem zxp255 : plainFor zxm255.1 = true := by decide +kernel
set_option maxRecDepth 20000 in
theorem zxt255 : z_MT[255]? = some zxm255 := rfl
set_option maxRecDepth 20000 in
theorem zxh255 : zk_ok1 lw_tbl zxm255 := ⟨List.mem_filter.mpr ⟨zxin8 _ (List.mem_of_getElem? (i := 32) rfl), rfl⟩, List.mem_filter.mpr ⟨List.mem_of_getElem? (i := 128) (by decide +kernel), rfl⟩, by decide +kernel, by decide +kernel⟩
theorem zxp256 : plainFor zxm256.1 = true := by decide +kernel
set_option maxRecDepth 20000 in
theorem zxt256 : z_MT[256]? = some zxm256 := rfl
set_option maxRecDepth 20000 in
theorem zxh256 : zk_ok1 lw_tbl zxm256 := ⟨List.mem_filter.mpr ⟨zxin8 _ (List.mem_of_getElem? (i := 36) rfl), rfl⟩, List.mem_filter.mpr ⟨List.mem_of_getElem? (i := 128) (by decide +kernel), rfl⟩, by decide +kernel, by decide +kernel⟩
theorem zxp257 : plainFor zxm257.1 = true := by decide +kernel
set_option maxRecDepth 20000 in
theorem zxt257 : z_MT[257]? = some zxm257 := rfl
set_option maxRecDepth 20000 in
theorem zxh257 : zk_ok1 lw_tbl zxm257 := ⟨List.mem_filter.mpr ⟨zxin8 _ (List.mem_of_getElem? (i := 39) rfl), rfl⟩, List.mem_filter.mpr ⟨List.mem_of_getElem? (i := 128) (by decide +kernel), rfl⟩, by decide +kernel, by decide +kernel⟩
theorem zxp258 : plainFor zxm258.1 = true := by decide +kernel
set_option maxRecDepth 20000 in
theorem zxt258 : z_MT[258]? = some zxm258 := rfl
set_option maxRecDepth 20000 in
theorem zxh258 : zk_ok1 lw_tbl zxm258 := ⟨List.mem_filter.mpr ⟨zxin8 _ (List.mem_of_getElem? (i := 42) rfl), rfl⟩, List.mem_filter.mpr ⟨List.mem_of_getElem? (i := 128) (by decide +kernel), rfl⟩, by decide +kernel, by decide +kernel⟩
theorem zxp259 : plainFor zxm259.1 = true := by decide +kernel
set_option maxRecDepth 20000 in
theorem zxt259 : z_MT[259]? = some zxm259 := rfl
set_option maxRecDepth 20000 in
theorem zxh259 : zk_ok1 lw_tbl zxm259 := ⟨List.mem_filter.mpr ⟨zxin8 _ (List.mem_of_getElem? (i := 46) rfl), rfl⟩, List.mem_filter.mpr ⟨List.mem_of_getElem? (i := 128) (by decide +kernel), rfl⟩, by decide +kernel, by decide +kernel⟩
theorem zxp260 : plainFor zxm260.1 = true := by decide +kernel
set_option maxRecDepth 20000 in
theorem zxt260 : z_MT[260]? = some zxm260 := rfl
set_option maxRecDepth 20000 in
theorem zxh260 : zk_ok1 lw_tbl zxm260 := ⟨List.mem_filter.mpr ⟨zxin8 _ (List.mem_of_getElem? (i := 50) rfl), rfl⟩, List.mem_filter.mpr ⟨List.mem_of_getElem? (i := 128) (by decide +kernel), rfl⟩, by decide +kernel, by decide +kernel⟩
theorem zxp261 : plainFor zxm261.1 = true := by decide +kernel
set_option maxRecDepth 20000 in
theorem zxt261 : z_MT[261]? = some zxm261 := rfl
set_option maxRecDepth 20000 in
theorem zxh261 : zk_ok1 lw_tbl zxm261 := ⟨List.mem_filter.mpr ⟨zxin8 _ (List.mem_of_getElem? (i := 54) rfl), rfl⟩, List.mem_filter.mpr ⟨List.mem_of_getElem? (i := 128) (by decide +kernel), rfl⟩, by decide +kernel, by decide +kernel⟩
theorem zxp262 : plainFor zxm262.1 = true := by decide +kernel
set_option maxRecDepth 20000 in
theorem zxt262 : z_MT[262]? = some zxm262 := rfl
set_option maxRecDepth 20000 in
theorem zxh262 : zk_ok1 lw_tbl zxm262 := ⟨List.mem_filter.mpr ⟨zxin8 _ (List.mem_of_getElem? (i := 58) rfl), rfl⟩, List.mem_filter.mpr ⟨List.mem_of_getElem? (i := 128) (by decide +kernel), rfl⟩, by decide +kernel, by decide +kernel⟩
theorem zxp263 : plainFor zxm263.1 = true := by decide +kernel
set_option maxRecDepth 20000 in
theorem zxt263 : z_MT[263]? = some zxm263 := rfl
set_option maxRecDepth 20000 in
theorem zxh263 : zk_ok1 lw_tbl zxm263 := ⟨List.mem_filter.mpr ⟨zxin8 _ (List.mem_of_getElem? (i := 62) rfl), rfl⟩, List.mem_filter.mpr ⟨List.mem_of_getElem? (i := 128) (by decide +kernel), rfl⟩, by decide +kernel, by decide +kernel⟩
theorem zxp264 : plainFor zxm264.1 = true := by decide +kernel
set_option maxRecDepth 20000 in
theorem zxt264 : z_MT[264]? = some zxm264 := rfl
set_option maxRecDepth 20000 in
theorem zxh264 : zk_ok1 lw_tbl zxm264 := ⟨List.mem_filter.mpr ⟨zxin8 _ (List.mem_of_getElem? (i := 66) rfl), rfl⟩, List.mem_filter.mpr ⟨List.mem_of_getElem? (i := 128) (by decide +kernel), rfl⟩, by decide +kernel, by decide +kernel⟩
theorem zxp265 : plainFor zxm265.1 = true := by decide +kernel
set_option maxRecDepth 20000 in
theorem zxt265 : z_MT[265]? = some zxm265 := rfl
set_option maxRecDepth 20000 in
theorem zxh265 : zk_ok1 lw_tbl zxm265 := ⟨List.mem_filter.mpr ⟨zxin8 _ (List.mem_of_getElem? (i := 70) rfl), rfl⟩, List.mem_filter.mpr ⟨List.mem_of_getElem? (i := 128) (by decide +kernel), rfl⟩, by decide +kernel, by decide +kernel⟩
theorem zxp266 : plainFor zxm266.1 = true := by decide +kernel
set_option maxRecDepth 20000 in
theorem zxt266 : z_MT[266]? = some zxm266 := rfl
set_option maxRecDepth 20000 in
theorem zxh266 : zk_ok1 lw_tbl zxm266 := ⟨List.mem_filter.mpr ⟨zxin8 _ (List.mem_of_getElem? (i := 74) rfl), rfl⟩, List.mem_filter.mpr ⟨List.mem_of_getElem? (i := 128) (by decide +kernel), rfl⟩, by decide +kernel, by decide +kernel⟩
theorem zxp267 : plainFor zxm267.1 = true := by decide +kernel
set_option maxRecDepth 20000 in
theorem zxt267 : z_MT[267]? = some zxm267 := rfl
set_option maxRecDepth 20000 in
theorem zxh267 : zk_ok1 lw_tbl zxm267 := ⟨List.mem_filter.mpr ⟨zxin8 _ (List.mem_of_getElem? (i := 78) rfl), rfl⟩, List.mem_filter.mpr ⟨List.mem_of_getElem? (i := 128) (by decide +kernel), rfl⟩, by decide +kernel, by decide +kernel⟩
theorem zxp268 : plainFor zxm268.1 = true := by decide +kernel
set_option maxRecDepth 20000 in
theorem zxt268 : z_MT[268]? = some zxm268 := rfl
set_option maxRecDepth 20000 in
theorem zxh268 : zk_ok1 lw_tbl zxm268 := ⟨List.mem_filter.mpr ⟨zxin8 _ (List.mem_of_getElem? (i := 82) rfl), rfl⟩, List.mem_filter.mpr ⟨List.mem_of_getElem? (i := 128) (by decide +kernel), rfl⟩, by decide +kernel, by decide +kernel⟩
theorem zxp269 : plainFor zxm269.1 = true := by decide +kernel
set_option maxRecDepth 20000 in
theorem zxt269 : z_MT[269]? = some zxm269 := rfl
set_option maxRecDepth 20000 in
theorem zxh269 : zk_ok1 lw_tbl zxm269 := ⟨List.mem_filter.mpr ⟨zxin8 _ (List.mem_of_getElem? (i := 86) rfl), rfl⟩, List.mem_filter.mpr ⟨List.mem_of_getElem? (i := 128) (by decide +kernel), rfl⟩, by decide +kernel, by decide +kernel⟩
theorem zxp270 : plainFor zxm270.1 = true := by decide +kernel
set_option maxRecDepth 20000 in
theorem zxt270 : z_MT[270]? = some zxm270 := rfl
set_option maxRecDepth 20000 in
theorem zxh270 : zk_ok1 lw_tbl zxm270 := ⟨List.mem_filter.mpr ⟨zxin8 _ (List.mem_of_getElem? (i := 90) rfl), rfl⟩, List.mem_filter.mpr ⟨List.mem_of_getElem? (i := 128) (by decide +kernel), rfl⟩, by decide +kernel, by decide +kernel⟩
theorem zxp271 : plainFor zxm271.1 = true := by decide +kernel
set_option maxRecDepth 20000 in
theorem zxt271 : z_MT[271]? = some zxm271 := rfl
set_option maxRecDepth 20000 in
theorem zxh271 : zk_ok1 lw_tbl zxm271 := ⟨List.mem_filter.mpr ⟨zxin8 _ (List.mem_of_getElem? (i := 94) rfl), rfl⟩, List.mem_filter.mpr ⟨List.mem_of_getElem? (i := 128) (by decide +kernel), rfl⟩, by decide +kernel, by decide +kernel⟩
theorem zxp272 : plainFor zxm272.1 = true := by decide +kernel
set_option maxRecDepth 20000 in
theorem zxt272 : z_MT[272]? = some zxm272 := rfl
set_option maxRecDepth 20000 in
theorem zxh272 : zk_ok1 lw_tbl zxm272 := ⟨List.mem_filter.mpr ⟨zxin8 _ (List.mem_of_getElem? (i := 98) rfl), rfl⟩, List.mem_filter.mpr ⟨List.mem_of_getElem? (i := 128) (by decide +kernel), rfl⟩, by decide +kernel, by decide +kernel⟩
theorem zxp273 : plainFor zxm273.1 = true := by decide +kernel
set_option maxRecDepth 20000 in
theorem zxt273 : z_MT[273]? = some zxm273 := rfl
set_option maxRecDepth 20000 in
theorem zxh273 : zk_ok1 lw_tbl zxm273 := ⟨List.mem_filter.mpr ⟨zxin8 _ (List.mem_of_getElem? (i := 102) rfl), rfl⟩, List.mem_filter.mpr ⟨List.mem_of_getElem? (i := 128) (by decide +kernel), rfl⟩, by decide +kernel, by decide +kernel⟩
theorem zxp274 : plainFor zxm274.1 = true := by decide +kernel
set_option maxRecDepth 20000 in
theorem zxt274 : z_MT[274]? = some zxm274 := rfl
set_option maxRecDepth 20000 in
theorem zxh274 : zk_ok1 lw_tbl zxm274 := ⟨List.mem_filter.mpr ⟨zxin8 _ (List.mem_of_getElem? (i := 106) rfl), rfl⟩, List.mem_filter.mpr ⟨List.mem_of_getElem? (i := 128) (by decide +kernel), rfl⟩, by decide +kernel, by decide +kernel⟩
theorem zxp275 : plainFor zxm275.1 = true := by decide +kernel
set_option maxRecDepth 20000 in
theorem zxt275 : z_MT[275]? = some zxm275 := rfl
set_option maxRecDepth 20000 in
theorem zxh275 : zk_ok1 lw_tbl zxm275 := ⟨List.mem_filter.mpr ⟨zxin8 _ (List.mem_of_getElem? (i := 110) rfl), rfl⟩, List.mem_filter.mpr ⟨List.mem_of_getElem? (i := 128) (by decide +kernel), rfl⟩, by decide +kernel, by decide +kernel⟩
theorem zxp276 : plainFor zxm276.1 = true := by decide +kernel
set_option maxRecDepth 20000 in
theorem zxt276 : z_MT[276]? = some zxm276 := rfl
set_option maxRecDepth 20000 in
theorem zxh276 : zk_ok1 lw_tbl zxm276 := ⟨List.mem_filter.mpr ⟨zxin8 _ (List.mem_of_getElem? (i := 114) rfl), rfl⟩, List.mem_filter.mpr ⟨List.mem_of_getElem? (i := 128) (by decide +kernel), rfl⟩, by decide +kernel, by decide +kernel⟩
theorem zxp277 : plainFor zxm277.1 = true := by decide +kernel
set_option maxRecDepth 20000 in
theorem zxt277 : z_MT[277]? = some zxm277 := rfl
set_option maxRecDepth 20000 in
theorem zxh277 : zk_ok1 lw_tbl zxm277 := ⟨List.mem_filter.mpr ⟨zxin8 _ (List.mem_of_getElem? (i := 118) rfl), rfl⟩, List.mem_filter.mpr ⟨List.mem_of_getElem? (i := 128) (by decide +kernel), rfl⟩, by decide +kernel, by decide +kernel⟩
theorem zxp278 : plainFor zxm278.1 = true := by decide +kernel
set_option maxRecDepth 20000 in
theorem zxt278 : z_MT[278]? = some zxm278 := rfl
set_option maxRecDepth 20000 in
theorem zxh278 : zk_ok1 lw_tbl zxm278 := ⟨List.mem_filter.mpr ⟨zxin8 _ (List.mem_of_getElem? (i := 121) rfl), rfl⟩, List.mem_filter.mpr ⟨List.mem_of_getElem? (i := 128) (by decide +kernel), rfl⟩, by decide +kernel, by decide +kernel⟩
theorem zxp279 : plainFor zxm279.1 = true := by decide +kernel
set_option maxRecDepth 20000 in
theorem zxt279 : z_MT[279]? = some zxm279 := rfl
set_option maxRecDepth 20000 in
theorem zxh279 : zk_ok1 lw_tbl zxm279 := ⟨List.mem_filter.mpr ⟨zxin8 _ (List.mem_of_getElem? (i := 125) rfl), rfl⟩, List.mem_filter.mpr ⟨List.mem_of_getElem? (i := 128) (by decide +kernel), rfl⟩, by decide +kernel, by decide +kernel⟩
theorem zxp280 : plainFor zxm280.1 = true := by decide +kernel
set_option maxRecDepth 20000 in
theorem zxt280 : z_MT[280]? = some zxm280 := rfl
set_option maxRecDepth 20000 in
theorem zxh280 : zk_ok1 lw_tbl zxm280 := ⟨List.mem_filter.mpr ⟨zxin8 _ (List.mem_of_getElem? (i := 129) rfl), rfl⟩, List.mem_filter.mpr ⟨List.mem_of_getElem? (i := 128) (by decide +kernel), rfl⟩, by decide +kernel, by decide +kernel⟩
theorem zxp281 : plainFor zxm281.1 = true := by decide +kernel
set_option maxRecDepth 20000 in
theorem zxt281 : z_MT[281]? = some zxm281 := rfl
set_option maxRecDepth 20000 in
theorem zxh281 : zk_ok1 lw_tbl zxm281 := ⟨List.mem_filter.mpr ⟨zxin8 _ (List.mem_of_getElem? (i := 133) rfl), rfl⟩, List.mem_filter.mpr ⟨List.mem_of_getElem? (i := 128) (by decide +kernel), rfl⟩, by decide +kernel, by decide +kernel⟩
theorem zxp282 : plainFor zxm282.1 = true := by decide +kernel
set_option maxRecDepth 20000 in
theorem zxt282 : z_MT[282]? = some zxm282 := rfl
set_option maxRecDepth 20000 in
theorem zxh282 : zk_ok1 lw_tbl zxm282 := ⟨List.mem_filter.mpr ⟨zxin8 _ (List.mem_of_getElem? (i := 138) rfl), rfl⟩, List.mem_filter.mpr ⟨List.mem_of_getElem? (i := 128) (by decide +kernel), rfl⟩, by decide +kernel, by decide +kernel⟩
theorem zxp283 : plainFor zxm283.1 = true := by decide +kernel
set_option maxRecDepth 20000 in
theorem zxt283 : z_MT[283]? = some zxm283 := rfl
set_option maxRecDepth 20000 in
theorem zxh283 : zk_ok1 lw_tbl zxm283 := ⟨List.mem_filter.mpr ⟨zxin8 _ (List.mem_of_getElem? (i := 142) rfl), rfl⟩, List.mem_filter.mpr ⟨List.mem_of_getElem? (i := 128) (by decide +kernel), rfl⟩, by decide +kernel, by decide +kernel⟩
theorem zxp284 : plainFor zxm284.1 = true := by decide +kernel
set_option maxRecDepth 20000 in
theorem zxt284 : z_MT[284]? = some zxm284 := rfl
set_option maxRecDepth 20000 in
theorem zxh284 : zk_ok1 lw_tbl zxm284 := ⟨List.mem_filter.mpr ⟨zxin8 _ (List.mem_of_getElem? (i := 146) rfl), rfl⟩, List.mem_filter.mpr ⟨List.mem_of_getElem? (i := 128) (by decide +kernel), rfl⟩, by decide +kernel, by decide +kernel⟩
theorem zxp285 : plainFor zxm285.1 = true := by decide +kernel
set_option maxRecDepth 20000 in
theorem zxt285 : z_MT[285]? = some zxm285 := rfl
set_option maxRecDepth 20000 in
theorem zxh285 : zk_ok1 lw_tbl zxm285 := ⟨List.mem_filter.mpr ⟨zxin8 _ (List.mem_of_getElem? (i := 150) rfl), rfl⟩, List.mem_filter.mpr ⟨List.mem_of_getElem? (i := 128) (by decide +kernel), rfl⟩, by decide +kernel, by decide +kernel⟩
theorem zxp286 : plainFor zxm286.1 = true := by decide +kernel
set_option maxRecDepth 20000 in
theorem zxt286 : z_MT[286]? = some zxm286 := rfl
set_option maxRecDepth 20000 in
theorem zxh286 : zk_ok1 lw_tbl zxm286 := ⟨List.mem_filter.mpr ⟨zxin8 _ (List.mem_of_getElem? (i := 155) rfl), rfl⟩, List.mem_filter.mpr ⟨List.mem_of_getElem? (i := 128) (by decide +kernel), rfl⟩, by decide +kernel, by decide +kernel⟩
theorem zxp287 : plainFor zxm287.1 = true := by decide +kernel
set_option maxRecDepth 20000 in
theorem zxt287 : z_MT[287]? = some zxm287 := rfl
set_option maxRecDepth 20000 in
theorem zxh287 : zk_ok1 lw_tbl zxm287 := ⟨List.mem_filter.mpr ⟨zxin8 _ (List.mem_of_getElem? (i := 159) rfl), rfl⟩, List.mem_filter.mpr ⟨List.mem_of_getElem? (i := 128) (by decide +kernel), rfl⟩, by decide +kernel, by decide +kernel⟩
theorem zxp288 : plainFor zxm288.1 = true := by decide +kernel
set_option maxRecDepth 20000 in
theorem zxt288 : z_MT[288]? = some zxm288 := rfl
set_option maxRecDepth 20000 in
theorem zxh288 : zk_ok1 lw_tbl zxm288 := ⟨List.mem_filter.mpr ⟨zxin8 _ (List.mem_of_getElem? (i := 163) rfl), rfl⟩, List.mem_filter.mpr ⟨List.mem_of_getElem? (i := 128) (by decide +kernel), rfl⟩, by decide +kernel, by decide +kernel⟩
theorem zxp289 : plainFor zxm289.1 = true := by decide +kernel
set_option maxRecDepth 20000 in
theorem zxt289 : z_MT[289]? = some zxm289 := rfl
set_option maxRecDepth 20000 in
theorem zxh289 : zk_ok1 lw_tbl zxm289 := ⟨List.mem_filter.mpr ⟨zxin8 _ (List.mem_of_getElem? (i := 167) rfl), rfl⟩, List.mem_filter.mpr ⟨List.mem_of_getElem? (i := 128) (by decide +kernel), rfl⟩, by decide +kernel, by decide +kernel⟩
theorem zxp290 : plainFor zxm290.1 = true := by decide +kernel
set_option maxRecDepth 20000 in
theorem zxt290 : z_MT[290]? = some zxm290 := rfl
set_option maxRecDepth 20000 in
theorem zxh290 : zk_ok1 lw_tbl zxm290 := ⟨List.mem_filter.mpr ⟨zxin8 _ (List.mem_of_getElem? (i := 171) rfl), rfl⟩, List.mem_filter.mpr ⟨List.mem_of_getElem? (i := 128) (by decide +kernel), rfl⟩, by decide +kernel, by decide +kernel⟩
theorem zxp291 : plainFor zxm291.1 = true := by decide +kernel
set_option maxRecDepth 20000 in
theorem zxt291 : z_MT[291]? = some zxm291 := rfl
set_option maxRecDepth 20000 in
theorem zxh291 : zk_ok1 lw_tbl zxm291 := ⟨List.mem_filter.mpr ⟨zxin8 _ (List.mem_of_getElem? (i := 175) rfl), rfl⟩, List.mem_filter.mpr ⟨List.mem_of_getElem? (i := 128) (by decide +kernel), rfl⟩, by decide +kernel, by decide +kernel⟩
theorem zxp292 : plainFor zxm292.1 = true := by decide +kernel
set_option maxRecDepth 20000 in
theorem zxt292 : z_MT[292]? = some zxm292 := rfl
set_option maxRecDepth 20000 in
theorem zxh292 : zk_ok1 lw_tbl zxm292 := ⟨List.mem_filter.mpr ⟨zxin8 _ (List.mem_of_getElem? (i := 180) rfl), rfl⟩, List.mem_filter.mpr ⟨List.mem_of_getElem? (i := 128) (by decide +kernel), rfl⟩, by decide +kernel, by decide +kernel⟩
theorem zxp293 : plainFor zxm293.1 = true := by decide +kernel
set_option maxRecDepth 20000 in
theorem zxt293 : z_MT[293]? = some zxm293 := rfl
set_option maxRecDepth 20000 in
theorem zxh293 : zk_ok1 lw_tbl zxm293 := ⟨List.mem_filter.mpr ⟨zxin8 _ (List.mem_of_getElem? (i := 183) rfl), rfl⟩, List.mem_filter.mpr ⟨List.mem_of_getElem? (i := 128) (by decide +kernel), rfl⟩, by decide +kernel, by decide +kernel⟩
theorem zxp294 : plainFor zxm294.1 = true := by decide +kernel
set_option maxRecDepth 20000 in
theorem zxt294 : z_MT[294]? = some zxm294 := rfl
set_option maxRecDepth 20000 in
theorem zxh294 : zk_ok1 lw_tbl zxm294 := ⟨List.mem_filter.mpr ⟨zxin8 _ (List.mem_of_getElem? (i := 187) rfl), rfl⟩, List.mem_filter.mpr ⟨List.mem_of_getElem? (i := 128) (by decide +kernel), rfl⟩, by decide +kernel, by decide +kernel⟩
theorem zxp295 : plainFor zxm295.1 = true := by decide +kernel
set_option maxRecDepth 20000 in
theorem zxt295 : z_MT[295]? = some zxm295 := rfl
set_option maxRecDepth 20000 in
theorem zxh295 : zk_ok1 lw_tbl zxm295 := ⟨List.mem_filter.mpr ⟨zxin8 _ (List.mem_of_getElem? (i := 191) rfl), rfl⟩, List.mem_filter.mpr ⟨List.mem_of_getElem? (i := 128) (by decide +kernel), rfl⟩, by decide +kernel, by decide +kernel⟩
theorem zxp296 : plainFor zxm296.1 = true := by decide +kernel
set_option maxRecDepth 20000 in
theorem zxt296 : z_MT[296]? = some zxm296 := rfl
set_option maxRecDepth 20000 in
theorem zxh296 : zk_ok1 lw_tbl zxm296 := ⟨List.mem_filter.mpr ⟨zxin8 _ (List.mem_of_getElem? (i := 194) rfl), rfl⟩, List.mem_filter.mpr ⟨List.mem_of_getElem? (i := 128) (by decide +kernel), rfl⟩, by decide +kernel, by decide +kernel⟩
theorem zxp297 : plainFor zxm297.1 = true := by decide +kernel
set_option maxRecDepth 20000 in
theorem zxt297 : z_MT[297]? = some zxm297 := rfl
set_option maxRecDepth 20000 in
theorem zxh297 : zk_ok1 lw_tbl zxm297 := ⟨List.mem_filter.mpr ⟨zxin8 _ (List.mem_of_getElem? (i := 198) rfl), rfl⟩, List.mem_filter.mpr ⟨List.mem_of_getElem? (i := 128) (by decide +kernel), rfl⟩, by decide +kernel, by decide +kernel⟩
theorem zxp298 : plainFor zxm298.1 = true := by decide +kernel
set_option maxRecDepth 20000 in
theorem zxt298 : z_MT[298]? = some zxm298 := rfl
set_option maxRecDepth 20000 in
theorem zxh298 : zk_ok1 lw_tbl zxm298 := ⟨List.mem_filter.mpr ⟨zxin8 _ (List.mem_of_getElem? (i := 202) rfl), rfl⟩, List.mem_filter.mpr ⟨List.mem_of_getElem? (i := 128) (by decide +kernel), rfl⟩, by decide +kernel, by decide +kernel⟩
theorem zxp299 : plainFor zxm299.1 = true := by decide +kernel
set_option maxRecDepth 20000 in
theorem zxt299 : z_MT[299]? = some zxm299 := rfl
set_option maxRecDepth 20000 in
theorem zxh299 : zk_ok1 lw_tbl zxm299 := ⟨List.mem_filter.mpr ⟨zxin8 _ (List.mem_of_getElem? (i := 206) rfl), rfl⟩, List.mem_filter.mpr ⟨List.mem_of_getElem? (i := 128) (by decide +kernel), rfl⟩, by decide +kernel, by decide +kernel⟩
theorem zxp300 : plainFor zxm300.1 = true := by decide +kernel
set_option maxRecDepth 20000 in
theorem zxt300 : z_MT[300]? = some zxm300 := rfl
set_option maxRecDepth 20000 in
theorem zxh300 : zk_ok1 lw_tbl zxm300 := ⟨List.mem_filter.mpr ⟨zxin8 _ (List.mem_of_getElem? (i := 209) rfl), rfl⟩, List.mem_filter.mpr ⟨List.mem_of_getElem? (i := 128) (by decide +kernel), rfl⟩, by decide +kernel, by decide +kernel⟩
theorem zxp301 : plainFor zxm301.1 = true := by decide +kernel
set_option maxRecDepth 20000 in
theorem zxt301 : z_MT[301]? = some zxm301 := rfl
set_option maxRecDepth 20000 in
theorem zxh301 : zk_ok1 lw_tbl zxm301 := ⟨List.mem_filter.mpr ⟨zxin8 _ (List.mem_of_getElem? (i := 213) rfl), rfl⟩, List.mem_filter.mpr ⟨List.mem_of_getElem? (i := 128) (by decide +kernel), rfl⟩, by decide +kernel, by decide +kernel⟩
theorem zxp302 : plainFor zxm302.1 = true := by decide +kernel
set_option maxRecDepth 20000 in
theorem zxt302 : z_MT[302]? = some zxm302 := rfl
set_option maxRecDepth 20000 in
theorem zxh302 : zk_ok1 lw_tbl zxm302 := ⟨List.mem_filter.mpr ⟨zxin8 _ (List.mem_of_getElem? (i := 217) rfl), rfl⟩, List.mem_filter.mpr ⟨List.mem_of_getElem? (i := 128) (by decide +kernel), rfl⟩, by decide +kernel, by decide +kernel⟩
theorem zxp303 : plainFor zxm303.1 = true := by decide +kernel
set_option maxRecDepth 20000 in
theorem zxt303 : z_MT[303]? = some zxm303 := rfl
set_option maxRecDepth 20000 in
theorem zxh303 : zk_ok1 lw_tbl zxm303 := ⟨List.mem_filter.mpr ⟨zxin8 _ (List.mem_of_getElem? (i := 221) rfl), rfl⟩, List.mem_filter.mpr ⟨List.mem_of_getElem? (i := 128) (by decide +kernel), rfl⟩, by decide +kernel, by decide +kernel⟩
theorem zxp304 : plainFor zxm304.1 = true := by decide +kernel
set_option maxRecDepth 20000 in
theorem zxt304 : z_MT[304]? = some zxm304 := rfl
set_option maxRecDepth 20000 in
theorem zxh304 : zk_ok1 lw_tbl zxm304 := ⟨List.mem_filter.mpr ⟨zxin8 _ (List.mem_of_getElem? (i := 224) rfl), rfl⟩, List.mem_filter.mpr ⟨List.mem_of_getElem? (i := 128) (by decide +kernel), rfl⟩, by decide +kernel, by decide +kernel⟩
theorem zxp305 : plainFor zxm305.1 = true := by decide +kernel
set_option maxRecDepth 20000 in
theorem zxt305 : z_MT[305]? = some zxm305 := rfl
set_option maxRecDepth 20000 in
theorem zxh305 : zk_ok1 lw_tbl zxm305 := ⟨List.mem_filter.mpr ⟨zxin8 _ (List.mem_of_getElem? (i := 228) rfl), rfl⟩, List.mem_filter.mpr ⟨List.mem_of_getElem? (i := 128) (by decide +kernel), rfl⟩, by decide +kernel, by decide +kernel⟩
theorem zxp306 : plainFor zxm306.1 = true := by decide +kernel
set_option maxRecDepth 20000 in
theorem zxt306 : z_MT[306]? = some zxm306 := rfl
set_option maxRecDepth 20000 in
theorem zxh306 : zk_ok1 lw_tbl zxm306 := ⟨List.mem_filter.mpr ⟨zxin8 _ (List.mem_of_getElem? (i := 232) rfl), rfl⟩, List.mem_filter.mpr ⟨List.mem_of_getElem? (i := 128) (by decide +kernel), rfl⟩, by decide +kernel, by decide +kernel⟩
theorem zxp307 : plainFor zxm307.1 = true := by decide +kernel
set_option maxRecDepth 20000 in
theorem zxt307 : z_MT[307]? = some zxm307 := rfl
set_option maxRecDepth 20000 in
theorem zxh307 : zk_ok1 lw_tbl zxm307 := ⟨List.mem_filter.mpr ⟨zxin8 _ (List.mem_of_getElem? (i := 236) rfl), rfl⟩, List.mem_filter.mpr ⟨List.mem_of_getElem? (i := 128) (by decide +kernel), rfl⟩, by decide +kernel, by decide +kernel⟩
theorem zxp308 : plainFor zxm308.1 = true := by decide +kernel
set_option maxRecDepth 20000 in
theorem zxt308 : z_MT[308]? = some zxm308 := rfl
set_option maxRecDepth 20000 in
theorem zxh308 : zk_ok1 lw_tbl zxm308 := ⟨List.mem_filter.mpr ⟨zxin9 _ (List.mem_of_getElem? (i := 0) rfl), rfl⟩, List.mem_filter.mpr ⟨List.mem_of_getElem? (i := 128) (by decide +kernel), rfl⟩, by decide +kernel, by decide +kernel⟩
theorem zxp309 : plainFor zxm309.1 = true := by decide +kernel
set_option maxRecDepth 20000 in
theorem zxt309 : z_MT[309]? = some zxm309 := rfl
set_option maxRecDepth 20000 in
theorem zxh309 : zk_ok1 lw_tbl zxm309 := ⟨List.mem_filter.mpr ⟨zxin9 _ (List.mem_of_getElem? (i := 4) rfl), rfl⟩, List.mem_filter.mpr ⟨List.mem_of_getElem? (i := 128) (by decide +kernel), rfl⟩, by decide +kernel, by decide +kernel⟩
theorem zxp310 : plainFor zxm310.1 = true := by decide +kernel
set_option maxRecDepth 20000 in
theorem zxt310 : z_MT[310]? = some zxm310 := rfl
set_option maxRecDepth 20000 in
theorem zxh310 : zk_ok1 lw_tbl zxm310 := ⟨List.mem_filter.mpr ⟨zxin9 _ (List.mem_of_getElem? (i := 8) rfl), rfl⟩, List.mem_filter.mpr ⟨List.mem_of_getElem? (i := 128) (by decide +kernel), rfl⟩, by decide +kernel, by decide +kernel⟩
theorem zxp311 : plainFor zxm311.1 = true := by decide +kernel
set_option maxRecDepth 20000 in
theorem zxt311 : z_MT[311]? = some zxm311 := rfl
set_option maxRecDepth 20000 in
theorem zxh311 : zk_ok1 lw_tbl zxm311 := ⟨List.mem_filter.mpr ⟨zxin9 _ (List.mem_of_getElem? (i := 12) rfl), rfl⟩, List.mem_filter.mpr ⟨List.mem_of_getElem? (i := 128) (by decide +kernel), rfl⟩, by decide +kernel, by decide +kernel⟩
theorem zxp312 : plainFor zxm312.1 = true := by decide +kernel
set_option maxRecDepth 20000 in
theorem zxt312 : z_MT[312]? = some zxm312 := rfl
set_option maxRecDepth 20000 in
theorem zxh312 : zk_ok1 lw_tbl zxm312 := ⟨List.mem_filter.mpr ⟨zxin9 _ (List.mem_of_getElem? (i := 16) rfl), rfl⟩, List.mem_filter.mpr ⟨List.mem_of_getElem? (i := 128) (by decide +kernel), rfl⟩, by decide +kernel, by decide +kernel⟩
theorem zxp313 : plainFor zxm313.1 = true := by decide +kernel
set_option maxRecDepth 20000 in
theorem zxt313 : z_MT[313]? = some zxm313 := rfl
set_option maxRecDepth 20000 in
theorem zxh313 : zk_ok1 lw_tbl zxm313 := ⟨List.mem_filter.mpr ⟨zxin9 _ (List.mem_of_getElem? (i := 20) rfl), rfl⟩, List.mem_filter.mpr ⟨List.mem_of_getElem? (i := 128) (by decide +kernel), rfl⟩, by decide +kernel, by decide +kernel⟩
theorem zxp314 : plainFor zxm314.1 = true := by decide +kernel
set_option maxRecDepth 20000 in
theorem zxt314 : z_MT[314]? = some zxm314 := rfl
set_option maxRecDepth 20000 in
theorem zxh314 : zk_ok1 lw_tbl zxm314 := ⟨List.mem_filter.mpr ⟨zxin9 _ (List.mem_of_getElem? (i := 24) rfl), rfl⟩, List.mem_filter.mpr ⟨List.mem_of_getElem? (i := 128) (by decide +kernel), rfl⟩, by decide +kernel, by decide +kernel⟩
theorem zxp315 : plainFor zxm315.1 = true := by decide +kernel
set_option maxRecDepth 20000 in
theorem zxt315 : z_MT[315]? = some zxm315 := rfl
set_option maxRecDepth 20000 in
theorem zxh315 : zk_ok1 lw_tbl zxm315 := ⟨List.mem_filter.mpr ⟨zxin9 _ (List.mem_of_getElem? (i := 28) rfl), rfl⟩, List.mem_filter.mpr ⟨List.mem_of_getElem? (i := 128) (by decide +kernel), rfl⟩, by decide +kernel, by decide +kernel⟩
theorem zxp316 : plainFor zxm316.1 = true := by decide +kernel
set_option maxRecDepth 20000 in
theorem zxt316 : z_MT[316]? = some zxm316 := rfl
set_option maxRecDepth 20000 in
theorem zxh316 : zk_ok1 lw_tbl zxm316 := ⟨List.mem_filter.mpr ⟨zxin9 _ (List.mem_of_getElem? (i := 32) rfl), rfl⟩, List.mem_filter.mpr ⟨List.mem_of_getElem? (i := 128) (by decide +kernel), rfl⟩, by decide +kernel, by decide +kernel⟩
theorem zxp317 : plainFor zxm317.1 = true := by decide +kernel
set_option maxRecDepth 20000 in
theorem zxt317 : z_MT[317]? = some zxm317 := rfl
set_option maxRecDepth 20000 in
theorem zxh317 : zk_ok1 lw_tbl zxm317 := ⟨List.mem_filter.mpr ⟨zxin9 _ (List.mem_of_getElem? (i := 36) rfl), rfl⟩, List.mem_filter.mpr ⟨List.mem_of_getElem? (i := 128) (by decide +kernel), rfl⟩, by decide +kernel, by decide +kernel⟩
theorem zxp318 : plainFor zxm318.1 = true := by decide +kernel
set_option maxRecDepth 20000 in
theorem zxt318 : z_MT[318]? = some zxm318 := rfl
set_option maxRecDepth 20000 in
theorem zxh318 : zk_ok1 lw_tbl zxm318 := ⟨List.mem_filter.mpr ⟨zxin9 _ (List.mem_of_getElem? (i := 40) rfl), rfl⟩, List.mem_filter.mpr ⟨List.mem_of_getElem? (i := 128) (by decide +kernel), rfl⟩, by decide +kernel, by decide +kernel⟩
theorem zxp319 : plainFor zxm319.1 = true := by decide +kernel
set_option maxRecDepth 20000 in
theorem zxt319 : z_MT[319]? = some zxm319 := rfl
set_option maxRecDepth 20000 in
theorem zxh319 : zk_ok1 lw_tbl zxm319 := ⟨List.mem_filter.mpr ⟨zxin9 _ (List.mem_of_getElem? (i := 45) rfl), rfl⟩, List.mem_filter.mpr ⟨List.mem_of_getElem? (i := 128) (by decide +kernel), rfl⟩, by decide +kernel, by decide +kernel⟩
theorem zxp320 : plainFor zxm320.1 = true := by decide +kernel
set_option maxRecDepth 20000 in
theorem zxt320 : z_MT[320]? = some zxm320 := rfl
set_option maxRecDepth 20000 in
theorem zxh320 : zk_ok1 lw_tbl zxm320 := ⟨List.mem_filter.mpr ⟨zxin9 _ (List.mem_of_getElem? (i := 49) rfl), rfl⟩, List.mem_filter.mpr ⟨List.mem_of_getElem? (i := 128) (by decide +kernel), rfl⟩, by decide +kernel, by decide +kernel⟩
theorem zxp321 : plainFor zxm321.1 = true := by decide +kernel
set_option maxRecDepth 20000 in
theorem zxt321 : z_MT[321]? = some zxm321 := rfl
set_option maxRecDepth 20000 in
theorem zxh321 : zk_ok1 lw_tbl zxm321 := ⟨List.mem_filter.mpr ⟨zxin9 _ (List.mem_of_getElem? (i := 53) rfl), rfl⟩, List.mem_filter.mpr ⟨List.mem_of_getElem? (i := 128) (by decide +kernel), rfl⟩, by decide +kernel, by decide +kernel⟩
theorem zxp322 : plainFor zxm322.1 = true := by decide +kernel
set_option maxRecDepth 20000 in
theorem zxt322 : z_MT[322]? = some zxm322 := rfl
set_option maxRecDepth 20000 in
theorem zxh322 : zk_ok1 lw_tbl zxm322 := ⟨List.mem_filter.mpr ⟨zxin9 _ (List.mem_of_getElem? (i := 57) rfl), rfl⟩, List.mem_filter.mpr ⟨List.mem_of_getElem? (i := 128) (by decide +kernel), rfl⟩, by decide +kernel, by decide +kernel⟩
theorem zxp323 : plainFor zxm323.1 = true := by decide +kernel
set_option maxRecDepth 20000 in
theorem zxt323 : z_MT[323]? = some zxm323 := rfl
set_option maxRecDepth 20000 in
theorem zxh323 : zk_ok1 lw_tbl zxm323 := ⟨List.mem_filter.mpr ⟨zxin9 _ (List.mem_of_getElem? (i := 61) rfl), rfl⟩, List.mem_filter.mpr ⟨List.mem_of_getElem? (i := 128) (by decide +kernel), rfl⟩, by decide +kernel, by decide +kernel⟩
theorem zxp324 : plainFor zxm324.1 = true := by decide +kernel
set_option maxRecDepth 20000 in
theorem zxt324 : z_MT[324]? = some zxm324 := rfl
set_option maxRecDepth 20000 in
theorem zxh324 : zk_ok1 lw_tbl zxm324 := ⟨List.mem_filter.mpr ⟨zxin9 _ (List.mem_of_getElem? (i := 65) rfl), rfl⟩, List.mem_filter.mpr ⟨List.mem_of_getElem? (i := 128) (by decide +kernel), rfl⟩, by decide +kernel, by decide +kernel⟩
theorem zxhM0 : ∀ mm ∈ zxMT0, zk_ok1 lw_tbl mm := List.forall_mem_cons.mpr ⟨zxh0, List.forall_mem_cons.mpr ⟨zxh1, List.forall_mem_cons.mpr ⟨zxh2, List.forall_mem_cons.mpr ⟨zxh3, List.forall_mem_cons.mpr ⟨zxh4, List.forall_mem_cons.mpr ⟨zxh5, List.forall_mem_cons.mpr ⟨zxh6, List.forall_mem_cons.mpr ⟨zxh7, List.forall_mem_cons.mpr ⟨zxh8, List.forall_mem_cons.mpr ⟨zxh9, List.forall_mem_cons.mpr ⟨zxh10, List.forall_mem_cons.mpr ⟨zxh11, List.forall_mem_cons.mpr ⟨zxh12, List.forall_mem_cons.mpr ⟨zxh13, List.forall_mem_cons.mpr ⟨zxh14, List.forall_mem_cons.mpr ⟨zxh15, List.forall_mem_cons.mpr ⟨zxh16, List.forall_mem_cons.mpr ⟨zxh17, List.forall_mem_cons.mpr ⟨zxh18, List.forall_mem_cons.mpr ⟨zxh19, List.forall_mem_cons.mpr ⟨zxh20, List.forall_mem_cons.mpr ⟨zxh21, List.forall_mem_cons.mpr ⟨zxh22, List.forall_mem_cons.mpr ⟨zxh23, List.forall_mem_cons.mpr ⟨zxh24, List.forall_mem_cons.mpr ⟨zxh25, List.forall_mem_cons.mpr ⟨zxh26, List.forall_mem_cons.mpr ⟨zxh27, List.forall_mem_cons.mpr ⟨zxh28, List.forall_mem_cons.mpr ⟨zxh29, List.forall_mem_cons.mpr ⟨zxh30, List.forall_mem_cons.mpr ⟨zxh31, List.forall_mem_cons.mpr ⟨zxh32, List.forall_mem_cons.mpr ⟨zxh33, List.forall_mem_cons.mpr ⟨zxh34, List.forall_mem_cons.mpr ⟨zxh35, List.forall_mem_cons.mpr ⟨zxh36, List.forall_mem_cons.mpr ⟨zxh37, List.forall_mem_cons.mpr ⟨zxh38, List.forall_mem_cons.mpr ⟨zxh39, List.forall_mem_cons.mpr ⟨zxh40, List.forall_mem_cons.mpr ⟨zxh41, List.forall_mem_cons.mpr ⟨zxh42, List.forall_mem_cons.mpr ⟨zxh43, List.forall_mem_cons.mpr ⟨zxh44, List.forall_mem_cons.mpr ⟨zxh45, List.forall_mem_cons.mpr ⟨zxh46, List.forall_mem_cons.mpr ⟨zxh47, List.forall_mem_cons.mpr ⟨zxh48, List.forall_mem_cons.mpr ⟨zxh49, fun _ h => absurd h List.not_mem_nil⟩⟩⟩⟩⟩⟩⟩⟩⟩⟩⟩⟩⟩⟩⟩⟩⟩⟩⟩⟩⟩⟩⟩⟩⟩⟩⟩⟩⟩⟩⟩⟩⟩⟩⟩⟩⟩⟩⟩⟩⟩⟩⟩⟩⟩⟩⟩⟩⟩⟩
theorem zxhM1 : ∀ mm ∈ zxMT1, zk_ok1 lw_tbl mm := List.forall_mem_cons.mpr ⟨zxh50, List.forall_mem_cons.mpr ⟨zxh51, List.forall_mem_cons.mpr ⟨zxh52, List.forall_mem_cons.mpr ⟨zxh53, List.forall_mem_cons.mpr ⟨zxh54, List.forall_mem_cons.mpr ⟨zxh55, List.forall_mem_cons.mpr ⟨zxh56, List.forall_mem_cons.mpr ⟨zxh57, List.forall_mem_cons.mpr ⟨zxh58, List.forall_mem_cons.mpr ⟨zxh59, List.forall_mem_cons.mpr ⟨zxh60, List.forall_mem_cons.mpr ⟨zxh61, List.forall_mem_cons.mpr ⟨zxh62, List.forall_mem_cons.mpr ⟨zxh63, List.forall_mem_cons.mpr ⟨zxh64, List.forall_mem_cons.mpr ⟨zxh65, List.forall_mem_cons.mpr ⟨zxh66, List.forall_mem_cons.mpr ⟨zxh67, List.forall_mem_cons.mpr ⟨zxh68, List.forall_mem_cons.mpr ⟨zxh69, List.forall_mem_cons.mpr ⟨zxh70, List.forall_mem_cons.mpr ⟨zxh71, List.forall_mem_cons.mpr ⟨zxh72, List.forall_mem_cons.mpr ⟨zxh73, List.forall_mem_cons.mpr ⟨zxh74, List.forall_mem_cons.mpr ⟨zxh75, List.forall_mem_cons.mpr ⟨zxh76, List.forall_mem_cons.mpr ⟨zxh77, List.forall_mem_cons.mpr ⟨zxh78, List.forall_mem_cons.mpr ⟨zxh79, List.forall_mem_cons.mpr ⟨zxh80, List.forall_mem_cons.mpr ⟨zxh81, List.forall_mem_cons.mpr ⟨zxh82, List.forall_mem_cons.mpr ⟨zxh83, List.forall_mem_cons.mpr ⟨zxh84, List.forall_mem_cons.mpr ⟨zxh85, List.forall_mem_cons.mpr ⟨zxh86, List.forall_mem_cons.mpr ⟨zxh87, List.forall_mem_cons.mpr ⟨zxh88, List.forall_mem_cons.mpr ⟨zxh89, List.forall_mem_cons.mpr ⟨zxh90, List.forall_mem_cons.mpr ⟨zxh91, List.forall_mem_cons.mpr ⟨zxh92, List.forall_mem_cons.mpr ⟨zxh93, List.forall_mem_cons.mpr ⟨zxh94, List.forall_mem_cons.mpr ⟨zxh95, List.forall_mem_cons.mpr ⟨zxh96, List.forall_mem_cons.mpr ⟨zxh97, List.forall_mem_cons.mpr ⟨zxh98, List.forall_mem_cons.mpr ⟨zxh99, fun _ h => absurd h List.not_mem_nil⟩⟩⟩⟩⟩⟩⟩⟩⟩⟩⟩⟩⟩⟩⟩⟩⟩⟩⟩⟩⟩⟩⟩⟩⟩⟩⟩⟩⟩⟩⟩⟩⟩⟩⟩⟩⟩⟩⟩⟩⟩⟩⟩⟩⟩⟩⟩⟩⟩⟩
theorem zxhM2 : ∀ mm ∈ zxMT2, zk_ok1 lw_tbl mm := List.forall_mem_cons.mpr ⟨zxh100, List.forall_mem_cons.mpr ⟨zxh101, List.forall_mem_cons.mpr ⟨zxh102, List.forall_mem_cons.mpr ⟨zxh103, List.forall_mem_cons.mpr ⟨zxh104, List.forall_mem_cons.mpr ⟨zxh105, List.forall_mem_cons.mpr ⟨zxh106, List.forall_mem_cons.mpr ⟨zxh107, List.forall_mem_cons.mpr ⟨zxh108, List.forall_mem_cons.mpr ⟨zxh109, List.forall_mem_cons.mpr ⟨zxh110, List.forall_mem_cons.mpr ⟨zxh111, List.forall_mem_cons.mpr ⟨zxh112, List.forall_mem_cons.mpr ⟨zxh113, List.forall_mem_cons.mpr ⟨zxh114, List.forall_mem_cons.mpr ⟨zxh115, List.forall_mem_cons.mpr ⟨zxh116, List.forall_mem_cons.mpr ⟨zxh117, List.forall_mem_cons.mpr ⟨zxh118, List.forall_mem_cons.mpr ⟨zxh119, List.forall_mem_cons.mpr ⟨zxh120, List.forall_mem_cons.mpr ⟨zxh121, List.forall_mem_cons.mpr ⟨zxh122, List.forall_mem_cons.mpr ⟨zxh123, List.forall_mem_cons.mpr ⟨zxh124, List.forall_mem_cons.mpr ⟨zxh125, List.forall_mem_cons.mpr ⟨zxh126, List.forall_mem_cons.mpr ⟨zxh127, List.forall_mem_cons.mpr ⟨zxh128, List.forall_mem_cons.mpr ⟨zxh129, List.forall_mem_cons.mpr ⟨zxh130, List.forall_mem_cons.mpr ⟨zxh131, List.forall_mem_cons.mpr ⟨zxh132, List.forall_mem_cons.mpr ⟨zxh133, List.forall_mem_cons.mpr ⟨zxh134, List.forall_mem_cons.mpr ⟨zxh135, List.forall_mem_cons.mpr ⟨zxh136, List.forall_mem_cons.mpr ⟨zxh137, List.forall_mem_cons.mpr ⟨zxh138, List.forall_mem_cons.mpr ⟨zxh139, List.forall_mem_cons.mpr ⟨zxh140, List.forall_mem_cons.mpr ⟨zxh141, List.forall_mem_cons.mpr ⟨zxh142, List.forall_mem_cons.mpr ⟨zxh143, List.forall_mem_cons.mpr ⟨zxh144, List.forall_mem_cons.mpr ⟨zxh145, List.forall_mem_cons.mpr ⟨zxh146, List.forall_mem_cons.mpr ⟨zxh147, List.forall_mem_cons.mpr ⟨zxh148, List.forall_mem_cons.mpr ⟨zxh149, fun _ h => absurd h List.not_mem_nil⟩⟩⟩⟩⟩⟩⟩⟩⟩⟩⟩⟩⟩⟩⟩⟩⟩⟩⟩⟩⟩⟩⟩⟩⟩⟩⟩⟩⟩⟩⟩⟩⟩⟩⟩⟩⟩⟩⟩⟩⟩⟩⟩⟩⟩⟩⟩⟩⟩⟩
theorem zxhM3 : ∀ mm ∈ zxMT3, zk_ok1 lw_tbl mm := List.forall_mem_cons.mpr ⟨zxh150, List.forall_mem_cons.mpr ⟨zxh151, List.forall_mem_cons.mpr ⟨zxh152, List.forall_mem_cons.mpr ⟨zxh153, List.forall_mem_cons.mpr ⟨zxh154, List.forall_mem_cons.mpr ⟨zxh155, List.forall_mem_cons.mpr ⟨zxh156, List.forall_mem_cons.mpr ⟨zxh157, List.forall_mem_cons.mpr ⟨zxh158, List.forall_mem_cons.mpr ⟨zxh159, List.forall_mem_cons.mpr ⟨zxh160, List.forall_mem_cons.mpr ⟨zxh161, List.forall_mem_cons.mpr ⟨zxh162, List.forall_mem_cons.mpr ⟨zxh163, List.forall_mem_cons.mpr ⟨zxh164, List.forall_mem_cons.mpr ⟨zxh165, List.forall_mem_cons.mpr ⟨zxh166, List.forall_mem_cons.mpr ⟨zxh167, List.forall_mem_cons.mpr ⟨zxh168, List.forall_mem_cons.mpr ⟨zxh169, List.forall_mem_cons.mpr ⟨zxh170, List.forall_mem_cons.mpr ⟨zxh171, List.forall_mem_cons.mpr ⟨zxh172, List.forall_mem_cons.mpr ⟨zxh173, List.forall_mem_cons.mpr ⟨zxh174, List.forall_mem_cons.mpr ⟨zxh175, List.forall_mem_cons.mpr ⟨zxh176, List.forall_mem_cons.mpr ⟨zxh177, List.forall_mem_cons.mpr ⟨zxh178, List.forall_mem_cons.mpr ⟨zxh179, List.forall_mem_cons.mpr ⟨zxh180, List.forall_mem_cons.mpr ⟨zxh181, List.forall_mem_cons.mpr ⟨zxh182, List.forall_mem_cons.mpr ⟨zxh183, List.forall_mem_cons.mpr ⟨zxh184, List.forall_mem_cons.mpr ⟨zxh185, List.forall_mem_cons.mpr ⟨zxh186, List.forall_mem_cons.mpr ⟨zxh187, List.forall_mem_cons.mpr ⟨zxh188, List.forall_mem_cons.mpr ⟨zxh189, List.forall_mem_cons.mpr ⟨zxh190, List.forall_mem_cons.mpr ⟨zxh191, List.forall_mem_cons.mpr ⟨zxh192, List.forall_mem_cons.mpr ⟨zxh193, List.forall_mem_cons.mpr ⟨zxh194, List.forall_mem_cons.mpr ⟨zxh195, List.forall_mem_cons.mpr ⟨zxh196, List.forall_mem_cons.mpr ⟨zxh197, List.forall_mem_cons.mpr ⟨zxh198, List.forall_mem_cons.mpr ⟨zxh199, fun _ h => absurd h List.not_mem_nil⟩⟩⟩⟩⟩⟩⟩⟩⟩⟩⟩⟩⟩⟩⟩⟩⟩⟩⟩⟩⟩⟩⟩⟩⟩⟩⟩⟩⟩⟩⟩⟩⟩⟩⟩⟩⟩⟩⟩⟩⟩⟩⟩⟩⟩⟩⟩⟩⟩⟩
theorem zxhM4 : ∀ mm ∈ zxMT4, zk_ok1 lw_tbl mm := List.forall_mem_cons.mpr ⟨zxh200, List.forall_mem_cons.mpr ⟨zxh201, List.forall_mem_cons.mpr ⟨zxh202, List.forall_mem_cons.mpr ⟨zxh203, List.forall_mem_cons.mpr ⟨zxh204, List.forall_mem_cons.mpr ⟨zxh205, List.forall_mem_cons.mpr ⟨zxh206, List.forall_mem_cons.mpr ⟨zxh207, List.forall_mem_cons.mpr ⟨zxh208, List.forall_mem_cons.mpr ⟨zxh209, List.forall_mem_cons.mpr ⟨zxh210, List.forall_mem_cons.mpr ⟨zxh211, List.forall_mem_cons.mpr ⟨zxh212, List.forall_mem_cons.mpr ⟨zxh213, List.forall_mem_cons.mpr ⟨zxh214, List.forall_mem_cons.mpr ⟨zxh215, List.forall_mem_cons.mpr ⟨zxh216, List.forall_mem_cons.mpr ⟨zxh217, List.forall_mem_cons.mpr ⟨zxh218, List.forall_mem_cons.mpr ⟨zxh219, List.forall_mem_cons.mpr ⟨zxh220, List.forall_mem_cons.mpr ⟨zxh221, List.forall_mem_cons.mpr ⟨zxh222, List.forall_mem_cons.mpr ⟨zxh223, List.forall_mem_cons.mpr ⟨zxh224, List.forall_mem_cons.mpr ⟨zxh225, List.forall_mem_cons.mpr ⟨zxh226, List.forall_mem_cons.mpr ⟨zxh227, List.forall_mem_cons.mpr ⟨zxh228, List.forall_mem_cons.mpr ⟨zxh229, List.forall_mem_cons.mpr ⟨zxh230, List.forall_mem_cons.mpr ⟨zxh231, List.forall_mem_cons.mpr ⟨zxh232, List.forall_mem_cons.mpr ⟨zxh233, List.forall_mem_cons.mpr ⟨zxh234, List.forall_mem_cons.mpr ⟨zxh235, List.forall_mem_cons.mpr ⟨zxh236, List.forall_mem_cons.mpr ⟨zxh237, List.forall_mem_cons.mpr ⟨zxh238, List.forall_mem_cons.mpr ⟨zxh239, List.forall_mem_cons.mpr ⟨zxh240, List.forall_mem_cons.mpr ⟨zxh241, List.forall_mem_cons.mpr ⟨zxh242, List.forall_mem_cons.mpr ⟨zxh243, List.forall_mem_cons.mpr ⟨zxh244, List.forall_mem_cons.mpr ⟨zxh245, List.forall_mem_cons.mpr ⟨zxh246, List.forall_mem_cons.mpr ⟨zxh247, List.forall_mem_cons.mpr ⟨zxh248, List.forall_mem_cons.mpr ⟨zxh249, fun _ h => absurd h List.not_mem_nil⟩⟩⟩⟩⟩⟩⟩⟩⟩⟩⟩⟩⟩⟩⟩⟩⟩⟩⟩⟩⟩⟩⟩⟩⟩⟩⟩⟩⟩⟩⟩⟩⟩⟩⟩⟩⟩⟩⟩⟩⟩⟩⟩⟩⟩⟩⟩⟩⟩⟩
theorem zxhM5 : ∀ mm ∈ zxMT5, zk_ok1 lw_tbl mm := List.forall_mem_cons.mpr ⟨zxh250, List.forall_mem_cons.mpr ⟨zxh251, List.forall_mem_cons.mpr ⟨zxh252, List.forall_mem_cons.mpr ⟨zxh253, List.forall_mem_cons.mpr ⟨zxh254, List.forall_mem_cons.mpr ⟨zxh255, List.forall_mem_cons.mpr ⟨zxh256, List.forall_mem_cons.mpr ⟨zxh257, List.forall_mem_cons.mpr ⟨zxh258, List.forall_mem_cons.mpr ⟨zxh259, List.forall_mem_cons.mpr ⟨zxh260, List.forall_mem_cons.mpr ⟨zxh261, List.forall_mem_cons.mpr ⟨zxh262, List.forall_mem_cons.mpr ⟨zxh263, List.forall_mem_cons.mpr ⟨zxh264, List.forall_mem_cons.mpr ⟨zxh265, List.forall_mem_cons.mpr ⟨zxh266, List.forall_mem_cons.mpr ⟨zxh267, List.forall_mem_cons.mpr ⟨zxh268, List.forall_mem_cons.mpr ⟨zxh269, List.forall_mem_cons.mpr ⟨zxh270, List.forall_mem_cons.mpr ⟨zxh271, List.forall_mem_cons.mpr ⟨zxh272, List.forall_mem_cons.mpr ⟨zxh273, List.forall_mem_cons.mpr ⟨zxh274, List.forall_mem_cons.mpr ⟨zxh275, List.forall_mem_cons.mpr ⟨zxh276, List.forall_mem_cons.mpr ⟨zxh277, List.forall_mem_cons.mpr ⟨zxh278, List.forall_mem_cons.mpr ⟨zxh279, List.forall_mem_cons.mpr ⟨zxh280, List.forall_mem_cons.mpr ⟨zxh281, List.forall_mem_cons.mpr ⟨zxh282, List.forall_mem_cons.mpr ⟨zxh283, List.forall_mem_cons.mpr ⟨zxh284, List.forall_mem_cons.mpr ⟨zxh285, List.forall_mem_cons.mpr ⟨zxh286, List.forall_mem_cons.mpr ⟨zxh287, List.forall_mem_cons.mpr ⟨zxh288, List.forall_mem_cons.mpr ⟨zxh289, List.forall_mem_cons.mpr ⟨zxh290, List.forall_mem_cons.mpr ⟨zxh291, List.forall_mem_cons.mpr ⟨zxh292, List.forall_mem_cons.mpr ⟨zxh293, List.forall_mem_cons.mpr ⟨zxh294, List.forall_mem_cons.mpr ⟨zxh295, List.forall_mem_cons.mpr ⟨zxh296, List.forall_mem_cons.mpr ⟨zxh297, List.forall_mem_cons.mpr ⟨zxh298, List.forall_mem_cons.mpr ⟨zxh299, fun _ h => absurd h List.not_mem_nil⟩⟩⟩⟩⟩⟩⟩⟩⟩⟩⟩⟩⟩⟩⟩⟩⟩⟩⟩⟩⟩⟩⟩⟩⟩⟩⟩⟩⟩⟩⟩⟩⟩⟩⟩⟩⟩⟩⟩⟩⟩⟩⟩⟩⟩⟩⟩⟩⟩⟩
theorem zxhM6 : ∀ mm ∈ zxMT6, zk_ok1 lw_tbl mm := List.forall_mem_cons.mpr ⟨zxh300, List.forall_mem_cons.mpr ⟨zxh301, List.forall_mem_cons.mpr ⟨zxh302, List.forall_mem_cons.mpr ⟨zxh303, List.forall_mem_cons.mpr ⟨zxh304, List.forall_mem_cons.mpr ⟨zxh305, List.forall_mem_cons.mpr ⟨zxh306, List.forall_mem_cons.mpr ⟨zxh307, List.forall_mem_cons.mpr ⟨zxh308, List.forall_mem_cons.mpr ⟨zxh309, List.forall_mem_cons.mpr ⟨zxh310, List.forall_mem_cons.mpr ⟨zxh311, List.forall_mem_cons.mpr ⟨zxh312, List.forall_mem_cons.mpr ⟨zxh313, List.forall_mem_cons.mpr ⟨zxh314, List.forall_mem_cons.mpr ⟨zxh315, List.forall_mem_cons.mpr ⟨zxh316, List.forall_mem_cons.mpr ⟨zxh317, List.forall_mem_cons.mpr ⟨zxh318, List.forall_mem_cons.mpr ⟨zxh319, List.forall_mem_cons.mpr ⟨zxh320, List.forall_mem_cons.mpr ⟨zxh321, List.forall_mem_cons.mpr ⟨zxh322, List.forall_mem_cons.mpr ⟨zxh323, List.forall_mem_cons.mpr ⟨zxh324, fun _ h => absurd h List.not_mem_nil⟩⟩⟩⟩⟩⟩⟩⟩⟩⟩⟩⟩⟩⟩⟩⟩⟩⟩⟩⟩⟩⟩⟩⟩⟩
theorem z_kM : ∀ mm ∈ z_MT, zk_ok1 lw_tbl mm := List.forall_mem_append.mpr ⟨zxhM0, List.forall_mem_append.mpr ⟨zxhM1, List.forall_mem_append.mpr ⟨zxhM2, List.forall_mem_append.mpr ⟨zxhM3, List.forall_mem_append.mpr ⟨zxhM4, List.forall_mem_append.mpr ⟨zxhM5, zxhM6⟩⟩⟩⟩⟩⟩
def z_pC : List (List Nat) := [[571, 573, 575, 577, 579, 581, 583, 585, 587, 589, 591, 593, 595, 597, 599, 601, 603, 605, 607], [188, 190, 192, 194, 196, 198, 200, 202, 204, 206, 208, 210], [225, 227, 229], [242, 244], [288, 290, 292, 294, 296, 298, 300, 302, 304, 306, 308, 310, 312, 314, 316], [331, 333, 335, 337, 339], [355, 357, 359], [388, 390, 392, 394, 396, 398, 400, 402, 404, 406], [423, 425, 427, 429, 431, 433, 435], [463, 465, 467, 469, 471, 473, 475, 477, 479, 481, 483, 485, 487, 489, 491], [507, 509, 511, 513, 515, 517, 519], [537, 539, 541, 543, 545, 547, 549], [1478, 1480, 1482, 1484, 1486, 1488, 1490, 1492, 1494, 1496, 1498, 1500, 1502, 1504, 1506, 1508, 1510, 1512, 1514, 1516, 1518, 1520, 1522, 1524, 1526, 1528, 1530, 1532, 1534, 1536, 1538, 1540, 1542, 1544, 1546, 1548, 1550, 1552, 1554, 1556, 1558, 1560, 1562, 1564, 1566, 1568, 1570, 1572, 1574, 1576, 1578, 1580, 1582, 1584, 1586, 1588, 1590, 1592, 1594, 1596, 1598, 1600, 1602, 1604]]
theorem z_kcl : zk_cls lw_tbl z_FT 0 z_cl z_pC = true := by decide +kernel
theorem z_k9 : Cond.instanceMethod Lib.objectInit ∈ z_TB ∧ Cond.code Lib.objectInit ⟨#[0xb1]⟩ 1 none ∈ z_TB := ⟨List.mem_filter.mpr ⟨List.mem_of_getElem? (i := 143) (by decide +kernel), rfl⟩, List.mem_filter.mpr ⟨List.mem_of_getElem? (i := 144) (by decide +kernel), rfl⟩⟩
theorem z_k8 : Cond.native arraycopyName ∈ z_TB ∧ Cond.static arraycopyName ∈ z_TB ∧ Cond.initialized "java/lang/System" ∈ z_TB := ⟨List.mem_filter.mpr ⟨List.mem_of_getElem? (i := 1067) (by decide +kernel), rfl⟩, List.mem_filter.mpr ⟨List.mem_of_getElem? (i := 1066) (by decide +kernel), rfl⟩, List.mem_filter.mpr ⟨List.mem_of_getElem? (i := 136) (by decide +kernel), rfl⟩⟩
theorem z_ka : ∀ k, k < 3 → Cond.arrayClass (z_ek k) ∈ z_TB := fun k hk => match k, hk with | 0, _ => List.mem_filter.mpr ⟨List.mem_of_getElem? (i := 213) (by decide +kernel), rfl⟩ | 1, _ => List.mem_filter.mpr ⟨List.mem_of_getElem? (i := 319) (by decide +kernel), rfl⟩ | 2, _ => List.mem_filter.mpr ⟨List.mem_of_getElem? (i := 522) (by decide +kernel), rfl⟩
abbrev z_KX : (Nat → Nat) → Nat → State → Heap → Prop := zs_K "StarTales$Law" "huimrcknsexyd" 48 13
theorem zs_wt : ∀ v ∈ zs_w, v ∈ z_TB := by
  have h : zs_w.all (fun v => decide (v ∈ z_TB)) = true := by decide +kernel
  exact fun v hv => of_decide_eq_true (List.all_eq_true.mp h v hv)
def z_KF0 : List (Nat × Nat × Nat) := [(10, 0, 0), (16, 0, 1), (19, 0, 2), (25, 0, 3), (29, 0, 4), (32, 0, 5), (39, 0, 6), (46, 0, 7), (50, 0, 8), (55, 3, 0), (62, 0, 9), (69, 0, 10), (73, 0, 11), (81, 0, 12), (85, 0, 13), (90, 7, 5), (96, 0, 14), (103, 0, 15), (112, 0, 16), (119, 0, 17), (123, 0, 18), (134, 1, 0), (138, 1, 1), (141, 1, 2), (144, 1, 3), (147, 1, 4), (150, 1, 5), (157, 1, 6), (161, 1, 8), (164, 1, 9), (167, 1, 10), (184, 2, 1), (187, 2, 2), (190, 3, 1), (218, 7, 4), (253, 6, 0), (260, 6, 1), (267, 8, 2), (306, 11, 0), (337, 1, 7), (360, 9, 0), (363, 9, 1), (370, 9, 2), (373, 9, 3), (411, 1, 11), (420, 4, 7)]
def z_KC0 : List (Nat × Nat) := [(7, 1), (22, 2), (36, 3), (43, 4), (53, 5), (66, 6), (76, 7), (88, 8), (100, 9), (107, 10), (116, 11)]
def z_KL0 : List (Nat × Nat × Nat) := [(1, 9, 0), (9, 3, 1), (24, 3, 2), (38, 3, 3), (45, 3, 4), (59, 2, 7), (68, 3, 8), (78, 2, 9), (93, 2, 10), (102, 3, 11), (109, 2, 12), (118, 3, 13), (126, 1, 15), (130, 1, 16), (153, 0, 18), (170, 1, 24), (174, 0, 25), (177, 0, 27), (181, 0, 29), (193, 0, 33), (197, 0, 35), (200, 0, 36), (204, 0, 77), (207, 0, 82), (211, 0, 84), (214, 0, 85), (221, 0, 96), (225, 0, 101), (229, 0, 103), (232, 0, 106), (235, 1, 102), (240, 0, 107), (243, 0, 108), (246, 0, 109), (249, 0, 104), (256, 0, 112), (263, 0, 120), (270, 0, 123), (273, 0, 125), (276, 0, 127), (280, 0, 131), (283, 0, 135), (286, 0, 132), (289, 0, 137), (293, 1, 31), (296, 1, 30), (299, 0, 139), (303, 0, 138), (308, 0, 141), (311, 0, 145), (314, 0, 147), (317, 0, 149), (320, 0, 150), (323, 0, 26), (326, 0, 152), (330, 0, 153), (334, 0, 155), (340, 0, 157), (343, 0, 158), (346, 0, 162), (350, 0, 164), (353, 0, 166), (356, 0, 167), (366, 0, 171), (376, 0, 176), (379, 0, 178), (383, 0, 183), (386, 0, 184), (389, 0, 185), (392, 0, 186), (395, 1, 129), (400, 0, 156), (403, 0, 97), (406, 0, 189), (414, 0, 192), (417, 0, 195), (423, 0, 197), (426, 1, 91), (429, 1, 37), (432, 0, 154)]
def z_KT0 : List (Nat × Int32) := [(160, 16777215), (410, 65535)]
theorem z_ks0 (Ts : List Cond) (hTs : ∀ w ∈ z_TB, w ∈ Ts) (CA NA : List (Nat × Nat)) (AC : List (Nat × Nat × Nat × Int)) (IN : Option Nat) (hin : ∀ j r, IN = some j → z_cl[j]? = some r → r.1 = "StarTales") : z_KS Ts z_TB z_cl z_FT "StarTales" z_MT (z_KF0, z_KC0, z_KL0, z_KT0, CA, NA, AC, IN) := zk_ks z_kcl z_kM z_k9 z_k8 z_ka (pF := [552, 553, 554, 555, 556, 557, 558, 559, 560, 239, 561, 562, 563, 564, 565, 382, 566, 567, 568, 569, 570, 152, 155, 158, 164, 168, 170, 172, 179, 182, 185, 222, 224, 241, 380, 349, 352, 418, 530, 176, 445, 447, 449, 451, 187, 274]) (pC := [(145, 146, 116), (214, 215, 117), (232, 233, 118), (247, 248, 119), (320, 321, 121), (342, 343, 122), (362, 363, 123), (409, 410, 124), (438, 439, 125), (494, 495, 126), (523, 524, 127)]) (pL := [(142, 0, 0), (147, 148, 0), (216, 217, 0), (234, 235, 0), (249, 250, 0), (322, 323, 0), (344, 345, 0), (364, 365, 0), (411, 412, 0), (440, 441, 0), (496, 497, 0), (525, 526, 0), (614, 615, 0), (617, 618, 0), (624, 625, 626), (649, 650, 0), (652, 653, 654), (660, 661, 662), (668, 669, 670), (682, 683, 684), (690, 691, 692), (694, 695, 696), (855, 856, 857), (874, 875, 876), (882, 883, 884), (887, 888, 889), (936, 938, 15), (956, 957, 958), (966, 967, 968), (978, 979, 980), (977, 961, 0), (983, 984, 985), (987, 988, 989), (995, 992, 993), (1000, 971, 972), (1005, 1006, 1007), (1039, 1040, 1041), (1051, 1053, 25), (1061, 1062, 1063), (1072, 1073, 1074), (1091, 1092, 1093), (1106, 1107, 1108), (1110, 1096, 1097), (1115, 1116, 1117), (1055, 676, 0), (1056, 673, 0), (1124, 1125, 1126), (1133, 1121, 1122), (1134, 1135, 1136), (1152, 1153, 1154), (1165, 1166, 1167), (1174, 1175, 1176), (1178, 1179, 1180), (1186, 657, 658), (1187, 1188, 1189), (1195, 1196, 1197), (1214, 1215, 1216), (1241, 1223, 1224), (1242, 1228, 1229), (1247, 1248, 1249), (1261, 1257, 1258), (1266, 1268, 32), (1270, 1271, 1272), (1291, 1292, 1293), (1312, 1313, 1314), (1320, 1321, 1322), (1341, 1343, 40), (1345, 1347, 41), (1350, 1352, 42), (1354, 1356, 43), (1362, 1085, 0), (1367, 1219, 1220), (940, 941, 942), (1368, 1369, 1370), (1381, 1382, 1383), (1394, 1395, 1396), (1403, 1404, 1405), (913, 914, 0), (916, 699, 0), (1349, 1208, 1209)]) (pT := [640, 1376]) (by decide +kernel) (by decide +kernel) (by decide +kernel) (by decide +kernel) Ts hTs CA NA AC IN hin
def z_KF1 : List (Nat × Nat × Nat) := [(11, 11, 0), (15, 11, 1), (18, 11, 2), (21, 11, 3), (24, 11, 4), (27, 11, 5), (30, 11, 6)]
def z_KC1 : List (Nat × Nat) := []
def z_KL1 : List (Nat × Nat × Nat) := [(3, 9, 0), (33, 1, 37), (39, 0, 142), (42, 1, 102), (48, 0, 143), (52, 0, 87), (57, 0, 88), (61, 0, 18), (67, 0, 92), (71, 0, 146), (74, 1, 78), (80, 0, 148)]
def z_KT1 : List (Nat × Int32) := []
theorem z_ks1 (Ts : List Cond) (hTs : ∀ w ∈ z_TB, w ∈ Ts) (CA NA : List (Nat × Nat)) (AC : List (Nat × Nat × Nat × Int)) (IN : Option Nat) (hin : ∀ j r, IN = some j → z_cl[j]? = some r → r.1 = "StarTales$Chooser") : z_KS Ts z_TB z_cl z_FT "StarTales$Chooser" z_MT (z_KF1, z_KC1, z_KL1, z_KT1, CA, NA, AC, IN) := zk_ks z_kcl z_kM z_k9 z_k8 z_ka (pF := [529, 531, 532, 533, 534, 535, 536]) (pC := []) (pL := [(528, 0, 0), (1138, 699, 0), (1139, 1141, 28), (1143, 961, 0), (1144, 1146, 29), (1156, 896, 897), (1157, 901, 902), (1158, 625, 626), (1159, 919, 920), (1160, 1161, 1162), (1169, 860, 0), (1170, 1172, 30)]) (pT := []) (by decide +kernel) (by decide +kernel) (by decide +kernel) (by decide +kernel) Ts hTs CA NA AC IN hin
def z_KF2 : List (Nat × Nat × Nat) := [(9, 4, 0), (13, 4, 1), (16, 4, 2), (20, 4, 3), (23, 4, 4), (26, 4, 5), (29, 4, 6), (32, 4, 7), (35, 4, 8), (39, 4, 9), (42, 4, 10), (45, 4, 11), (56, 4, 12), (59, 4, 13), (62, 4, 14), (75, 1, 6), (80, 1, 7), (83, 1, 3), (86, 1, 2)]
def z_KC2 : List (Nat × Nat) := []
def z_KL2 : List (Nat × Nat × Nat) := [(1, 9, 0), (65, 0, 75), (69, 1, 78), (89, 0, 82), (93, 0, 94), (96, 1, 37), (102, 1, 55)]
def z_KT2 : List (Nat × Int32) := []
theorem z_ks2 (Ts : List Cond) (hTs : ∀ w ∈ z_TB, w ∈ Ts) (CA NA : List (Nat × Nat)) (AC : List (Nat × Nat × Nat × Int)) (IN : Option Nat) (hin : ∀ j r, IN = some j → z_cl[j]? = some r → r.1 = "StarTales$Law") : z_KS Ts z_TB z_cl z_FT "StarTales$Law" z_MT (z_KF2, z_KC2, z_KL2, z_KT2, CA, NA, AC, IN) := zk_ks z_kcl z_kM z_k9 z_k8 z_ka (pF := [264, 265, 266, 268, 269, 270, 271, 272, 275, 277, 279, 281, 283, 286, 287, 173, 175, 166, 162]) (pC := []) (pL := [(252, 0, 0), (847, 849, 12), (899, 860, 0), (922, 875, 876), (927, 929, 14), (1164, 699, 0), (931, 768, 0)]) (pT := []) (by decide +kernel) (by decide +kernel) (by decide +kernel) (by decide +kernel) Ts hTs CA NA AC IN hin
def z_KF3 : List (Nat × Nat × Nat) := [(9, 5, 1), (15, 5, 2), (18, 5, 3), (21, 5, 0), (25, 5, 4), (47, 4, 7), (60, 4, 2)]
def z_KC3 : List (Nat × Nat) := []
def z_KL3 : List (Nat × Nat × Nat) := [(3, 9, 0), (29, 1, 37), (35, 0, 38), (40, 0, 39), (43, 0, 46), (50, 4, 42), (53, 0, 40), (57, 0, 41), (63, 0, 43), (66, 0, 69), (69, 0, 74), (73, 0, 70), (76, 0, 49), (79, 0, 73), (82, 0, 71), (85, 0, 72), (88, 0, 44), (91, 0, 45), (94, 1, 47), (98, 0, 48)]
def z_KT3 : List (Nat × Int32) := []
theorem z_ks3 (Ts : List Cond) (hTs : ∀ w ∈ z_TB, w ∈ Ts) (CA NA : List (Nat × Nat)) (AC : List (Nat × Nat × Nat × Int)) (IN : Option Nat) (hin : ∀ j r, IN = some j → z_cl[j]? = some r → r.1 = "StarTales$LawReader") : z_KS Ts z_TB z_cl z_FT "StarTales$LawReader" z_MT (z_KF3, z_KC3, z_KL3, z_KT3, CA, NA, AC, IN) := zk_ks z_kcl z_kM z_k9 z_k8 z_ka (pF := [327, 328, 329, 326, 330, 273, 267]) (pC := []) (pL := [(325, 0, 0), (698, 699, 0), (701, 702, 703), (705, 707, 0), (732, 734, 6), (717, 718, 0), (709, 711, 1), (713, 715, 2), (720, 722, 3), (823, 825, 8), (843, 844, 845), (827, 829, 9), (743, 744, 745), (839, 840, 841), (831, 833, 10), (835, 837, 11), (724, 726, 4), (728, 730, 5), (736, 737, 0), (739, 741, 7)]) (pT := []) (by decide +kernel) (by decide +kernel) (by decide +kernel) (by decide +kernel) Ts hTs CA NA AC IN hin
def z_KF4 : List (Nat × Nat × Nat) := [(11, 8, 0), (17, 8, 1), (20, 8, 2), (23, 8, 5), (27, 8, 6), (30, 8, 3), (34, 8, 4), (41, 6, 1), (52, 6, 2), (92, 7, 5), (99, 7, 0), (107, 7, 4)]
def z_KC4 : List (Nat × Nat) := []
def z_KL4 : List (Nat × Nat × Nat) := [(3, 9, 0), (37, 0, 113), (44, 0, 115), (48, 0, 121), (55, 1, 102), (61, 0, 114), (65, 0, 116), (68, 0, 117), (72, 0, 118), (76, 1, 37), (81, 0, 119), (84, 0, 179), (88, 1, 180), (95, 0, 112), (103, 0, 181), (110, 0, 82)]
def z_KT4 : List (Nat × Int32) := []
theorem z_ks4 (Ts : List Cond) (hTs : ∀ w ∈ z_TB, w ∈ Ts) (CA NA : List (Nat × Nat)) (AC : List (Nat × Nat × Nat × Int)) (IN : Option Nat) (hin : ∀ j r, IN = some j → z_cl[j]? = some r → r.1 = "StarTales$Matcher") : z_KS Ts z_TB z_cl z_FT "StarTales$Matcher" z_MT (z_KF4, z_KC4, z_KL4, z_KT4, CA, NA, AC, IN) := zk_ks z_kcl z_kM z_k9 z_k8 z_ka (pF := [415, 416, 417, 421, 422, 419, 420, 351, 354, 383, 370, 379]) (pC := []) (pL := [(414, 0, 0), (1009, 1011, 17), (1018, 1020, 19), (1043, 1045, 24), (1013, 961, 0), (1014, 1016, 18), (1022, 1024, 20), (1026, 1028, 21), (1030, 1032, 22), (1038, 699, 0), (1034, 1036, 23), (1324, 1326, 38), (1328, 1329, 0), (1332, 1006, 1007), (1333, 1335, 39), (1331, 875, 876)]) (pT := []) (by decide +kernel) (by decide +kernel) (by decide +kernel) (by decide +kernel) Ts hTs CA NA AC IN hin
def z_KF5 : List (Nat × Nat × Nat) := [(9, 10, 0), (15, 10, 1), (19, 10, 2), (22, 10, 3), (26, 10, 4), (29, 10, 5), (32, 10, 6), (49, 7, 4), (68, 1, 2), (71, 1, 3), (97, 7, 2), (100, 7, 3)]
def z_KC5 : List (Nat × Nat) := []
def z_KL5 : List (Nat × Nat × Nat) := [(3, 9, 0), (36, 4, 31), (40, 4, 30), (43, 0, 85), (52, 0, 128), (57, 0, 82), (62, 1, 129), (74, 1, 130), (78, 0, 132), (81, 0, 133), (85, 1, 134), (89, 1, 37), (92, 0, 138), (103, 4, 24)]
def z_KT5 : List (Nat × Int32) := [(56, -1640531535)]
theorem z_ks5 (Ts : List Cond) (hTs : ∀ w ∈ z_TB, w ∈ Ts) (CA NA : List (Nat × Nat)) (AC : List (Nat × Nat × Nat × Int)) (IN : Option Nat) (hin : ∀ j r, IN = some j → z_cl[j]? = some r → r.1 = "StarTales$Patches") : z_KS Ts z_TB z_cl z_FT "StarTales$Patches" z_MT (z_KF5, z_KC5, z_KL5, z_KT5, CA, NA, AC, IN) := zk_ks z_kcl z_kM z_k9 z_k8 z_ka (pF := [500, 501, 502, 503, 504, 505, 506, 378, 160, 165, 374, 376]) (pC := []) (pL := [(499, 0, 0), (1076, 676, 0), (1077, 673, 0), (1078, 888, 889), (1079, 1081, 26), (1083, 875, 876), (1084, 1085, 0), (1087, 1088, 0), (1095, 1096, 1097), (1099, 1101, 27), (1103, 1104, 0), (1119, 699, 0), (1120, 1121, 1122), (1128, 650, 0)]) (pT := [1090]) (by decide +kernel) (by decide +kernel) (by decide +kernel) (by decide +kernel) Ts hTs CA NA AC IN hin
def z_KF6 : List (Nat × Nat × Nat) := [(11, 9, 0), (15, 9, 1), (18, 9, 2), (21, 9, 3), (24, 9, 4), (28, 9, 5), (31, 9, 6), (34, 9, 7), (37, 9, 8), (40, 9, 9), (43, 9, 10), (46, 9, 11), (49, 9, 12), (52, 9, 13), (55, 9, 14), (75, 7, 0), (93, 1, 2), (104, 1, 0), (135, 7, 1)]
def z_KC6 : List (Nat × Nat) := []
def z_KL6 : List (Nat × Nat × Nat) := [(5, 9, 0), (58, 4, 31), (62, 4, 30), (65, 0, 86), (71, 0, 89), (79, 0, 82), (84, 1, 129), (90, 1, 37), (96, 1, 91), (99, 0, 154), (107, 4, 105), (110, 1, 78), (116, 0, 168), (120, 0, 18), (123, 0, 169), (127, 0, 172), (131, 0, 125), (139, 0, 84), (143, 0, 174), (147, 0, 155), (150, 0, 153), (154, 0, 173), (158, 0, 163), (162, 0, 164), (165, 1, 55)]
def z_KT6 : List (Nat × Int32) := []
theorem z_ks6 (Ts : List Cond) (hTs : ∀ w ∈ z_TB, w ∈ Ts) (CA NA : List (Nat × Nat)) (AC : List (Nat × Nat × Nat × Int)) (IN : Option Nat) (hin : ∀ j r, IN = some j → z_cl[j]? = some r → r.1 = "StarTales$Pilot") : z_KS Ts z_TB z_cl z_FT "StarTales$Pilot" z_MT (z_KF6, z_KC6, z_KL6, z_KT6, CA, NA, AC, IN) := zk_ks z_kcl z_kM z_k9 z_k8 z_ka (pF := [444, 446, 448, 450, 452, 453, 454, 455, 456, 457, 458, 459, 460, 461, 462, 369, 159, 153, 372]) (pC := []) (pL := [(443, 0, 0), (1199, 676, 0), (1200, 673, 0), (1201, 892, 893), (1202, 905, 906), (1203, 875, 876), (1204, 1085, 0), (1205, 699, 0), (1206, 914, 0), (1207, 1208, 1209), (1274, 975, 0), (1255, 860, 0), (1275, 1277, 33), (1279, 625, 626), (1281, 1283, 34), (1295, 1297, 35), (1303, 1062, 1063), (1286, 883, 884), (1304, 1306, 37), (1285, 1215, 1216), (1280, 1196, 1197), (1299, 1301, 36), (1251, 1253, 31), (1256, 1257, 1258), (1260, 768, 0)]) (pT := []) (by decide +kernel) (by decide +kernel) (by decide +kernel) (by decide +kernel) Ts hTs CA NA AC IN hin
def z_KF7 : List (Nat × Nat × Nat) := [(9, 2, 0), (15, 2, 1), (19, 2, 2)]
def z_KC7 : List (Nat × Nat) := []
def z_KL7 : List (Nat × Nat × Nat) := [(3, 9, 0), (22, 4, 30), (26, 4, 31), (29, 1, 102), (34, 0, 26), (38, 4, 16), (42, 4, 24), (46, 0, 29), (49, 8, 0)]
def z_KT7 : List (Nat × Int32) := []
theorem z_ks7 (Ts : List Cond) (hTs : ∀ w ∈ z_TB, w ∈ Ts) (CA NA : List (Nat × Nat)) (AC : List (Nat × Nat × Nat × Int)) (IN : Option Nat) (hin : ∀ j r, IN = some j → z_cl[j]? = some r → r.1 = "StarTales$Sea") : z_KS Ts z_TB z_cl z_FT "StarTales$Sea" z_MT (z_KF7, z_KC7, z_KL7, z_KT7, CA, NA, AC, IN) := zk_ks z_kcl z_kM z_k9 z_k8 z_ka (pF := [220, 221, 223]) (pC := []) (pL := [(219, 0, 0), (672, 673, 0), (675, 676, 0), (1407, 961, 0), (656, 657, 658), (1211, 618, 0), (1212, 650, 0), (1213, 669, 670), (1385, 0, 0)]) (pT := []) (by decide +kernel) (by decide +kernel) (by decide +kernel) (by decide +kernel) Ts hTs CA NA AC IN hin
def z_KF8 : List (Nat × Nat × Nat) := [(9, 1, 0), (15, 1, 1), (19, 1, 2), (22, 1, 3), (25, 1, 4), (28, 1, 5), (31, 1, 6), (34, 1, 7), (37, 1, 8), (40, 1, 9), (43, 1, 10), (46, 1, 11), (81, 4, 12)]
def z_KC8 : List (Nat × Nat) := []
def z_KL8 : List (Nat × Nat × Nat) := [(3, 9, 0), (49, 1, 129), (55, 1, 37), (58, 1, 55), (61, 0, 157), (65, 0, 158), (68, 0, 156), (71, 0, 87), (76, 0, 88), (84, 0, 146), (87, 8, 0)]
def z_KT8 : List (Nat × Int32) := [(80, 65536)]
theorem z_ks8 (Ts : List Cond) (hTs : ∀ w ∈ z_TB, w ∈ Ts) (CA NA : List (Nat × Nat)) (AC : List (Nat × Nat × Nat × Int)) (IN : Option Nat) (hin : ∀ j r, IN = some j → z_cl[j]? = some r → r.1 = "StarTales$Sky") : z_KS Ts z_TB z_cl z_FT "StarTales$Sky" z_MT (z_KF8, z_KC8, z_KL8, z_KT8, CA, NA, AC, IN) := zk_ks z_kcl z_kM z_k9 z_k8 z_ka (pF := [151, 154, 157, 163, 167, 169, 171, 174, 177, 180, 183, 186, 285]) (pC := []) (pL := [(150, 0, 0), (1226, 1085, 0), (1231, 699, 0), (1232, 768, 0), (1222, 1223, 1224), (1227, 1228, 1229), (1218, 1219, 1220), (1191, 896, 897), (1192, 901, 902), (1194, 1161, 1162), (1065, 0, 0)]) (pT := [1193]) (by decide +kernel) (by decide +kernel) (by decide +kernel) (by decide +kernel) Ts hTs CA NA AC IN hin
def z_KF9 : List (Nat × Nat × Nat) := [(9, 6, 0), (15, 6, 1), (18, 6, 2)]
def z_KC9 : List (Nat × Nat) := []
def z_KL9 : List (Nat × Nat × Nat) := [(3, 9, 0), (22, 1, 78), (28, 1, 79), (32, 4, 42), (36, 0, 80)]
def z_KT9 : List (Nat × Int32) := []
theorem z_ks9 (Ts : List Cond) (hTs : ∀ w ∈ z_TB, w ∈ Ts) (CA NA : List (Nat × Nat)) (AC : List (Nat × Nat × Nat × Int)) (IN : Option Nat) (hin : ∀ j r, IN = some j → z_cl[j]? = some r → r.1 = "StarTales$Tale") : z_KS Ts z_TB z_cl z_FT "StarTales$Tale" z_MT (z_KF9, z_KC9, z_KL9, z_KT9, CA, NA, AC, IN) := zk_ks z_kcl z_kM z_k9 z_k8 z_ka (pF := [348, 350, 353]) (pC := []) (pL := [(347, 0, 0), (859, 860, 0), (862, 863, 0), (865, 718, 0), (866, 868, 13)]) (pT := []) (by decide +kernel) (by decide +kernel) (by decide +kernel) (by decide +kernel) Ts hTs CA NA AC IN hin
def z_KF10 : List (Nat × Nat × Nat) := [(9, 3, 0), (13, 3, 1)]
def z_KC10 : List (Nat × Nat) := []
def z_KL10 : List (Nat × Nat × Nat) := [(1, 9, 0), (17, 0, 138)]
def z_KT10 : List (Nat × Int32) := []
theorem z_ks10 (Ts : List Cond) (hTs : ∀ w ∈ z_TB, w ∈ Ts) (CA NA : List (Nat × Nat)) (AC : List (Nat × Nat × Nat × Int)) (IN : Option Nat) (hin : ∀ j r, IN = some j → z_cl[j]? = some r → r.1 = "StarTales$Tape") : z_KS Ts z_TB z_cl z_FT "StarTales$Tape" z_MT (z_KF10, z_KC10, z_KL10, z_KT10, CA, NA, AC, IN) := zk_ks z_kcl z_kM z_k9 z_k8 z_ka (pF := [238, 240]) (pC := []) (pL := [(237, 0, 0), (1398, 1121, 1122)]) (pT := []) (by decide +kernel) (by decide +kernel) (by decide +kernel) (by decide +kernel) Ts hTs CA NA AC IN hin
def z_KF11 : List (Nat × Nat × Nat) := [(9, 7, 2), (15, 7, 3), (18, 7, 4), (21, 7, 5), (25, 7, 6), (28, 7, 7), (31, 7, 8), (34, 7, 9), (37, 7, 0), (41, 7, 1), (60, 4, 12), (84, 1, 2), (92, 1, 9), (95, 1, 10), (98, 1, 8), (101, 4, 8), (112, 4, 10), (115, 4, 9), (125, 1, 1), (128, 4, 11)]
def z_KC11 : List (Nat × Nat) := []
def z_KL11 : List (Nat × Nat × Nat) := [(3, 9, 0), (45, 1, 78), (51, 0, 87), (56, 0, 88), (63, 0, 86), (67, 0, 89), (71, 0, 18), (76, 0, 82), (80, 4, 90), (87, 1, 91), (105, 0, 92), (109, 0, 93), (118, 0, 98), (122, 0, 99), (131, 1, 102), (136, 4, 105), (139, 0, 104), (143, 1, 55), (146, 0, 109)]
def z_KT11 : List (Nat × Int32) := []
theorem z_ks11 (Ts : List Cond) (hTs : ∀ w ∈ z_TB, w ∈ Ts) (CA NA : List (Nat × Nat)) (AC : List (Nat × Nat × Nat × Int)) (IN : Option Nat) (hin : ∀ j r, IN = some j → z_cl[j]? = some r → r.1 = "StarTales$View") : z_KS Ts z_TB z_cl z_FT "StarTales$View" z_MT (z_KF11, z_KC11, z_KL11, z_KT11, CA, NA, AC, IN) := zk_ks z_kcl z_kM z_k9 z_k8 z_ka (pF := [373, 375, 377, 381, 384, 385, 386, 387, 368, 371, 284, 161, 181, 184, 178, 276, 280, 278, 156, 282]) (pC := []) (pL := [(367, 0, 0), (886, 860, 0), (895, 896, 897), (900, 901, 902), (891, 892, 893), (904, 905, 906), (908, 625, 626), (909, 875, 876), (910, 911, 0), (917, 914, 0), (918, 919, 920), (923, 924, 925), (944, 946, 16), (948, 949, 950), (960, 961, 0), (974, 975, 0), (970, 971, 972), (982, 768, 0), (991, 992, 993)]) (pT := []) (by decide +kernel) (by decide +kernel) (by decide +kernel) (by decide +kernel) Ts hTs CA NA AC IN hin
def z_KF12 : List (Nat × Nat × Nat) := []
def z_KC12 : List (Nat × Nat) := [(7, 0), (10, 12)]
def z_KL12 : List (Nat × Nat × Nat) := [(9, 2, 0), (12, 2, 198), (13, 0, 14), (17, 0, 199), (18, 0, 17), (22, 0, 202), (23, 0, 19), (27, 0, 205), (28, 0, 20), (31, 0, 206), (32, 0, 21), (35, 0, 207), (36, 0, 22), (40, 0, 208), (41, 0, 23), (45, 0, 209), (46, 0, 28), (49, 0, 211), (50, 0, 32), (54, 0, 213), (55, 0, 34), (59, 0, 215), (60, 0, 76), (63, 0, 263), (64, 0, 81), (68, 0, 237), (69, 0, 83), (72, 0, 239), (73, 0, 95), (77, 0, 251), (78, 0, 100), (82, 0, 254), (83, 0, 110), (86, 0, 262), (87, 0, 111), (90, 0, 267), (91, 0, 122), (94, 0, 271), (95, 0, 124), (98, 0, 273), (99, 0, 126), (102, 0, 274), (103, 0, 136), (106, 0, 281), (107, 0, 140), (110, 0, 283), (111, 0, 144), (114, 0, 287), (115, 0, 151), (119, 0, 289), (120, 0, 159), (123, 0, 297), (124, 0, 160), (128, 0, 298), (129, 0, 161), (132, 0, 302), (133, 0, 165), (136, 0, 305), (137, 0, 170), (140, 0, 307), (141, 0, 175), (144, 0, 310), (145, 0, 177), (148, 0, 312), (149, 0, 182), (152, 0, 314), (153, 0, 187), (156, 0, 316), (157, 0, 188), (160, 0, 317), (161, 0, 190), (164, 0, 318), (165, 0, 191), (168, 0, 319), (169, 0, 193), (173, 0, 320), (174, 0, 194), (177, 0, 321), (178, 0, 196), (181, 0, 323)]
def z_KT12 : List (Nat × Int32) := []
theorem z_ks12 (Ts : List Cond) (hTs : ∀ w ∈ z_TB, w ∈ Ts) (CA NA : List (Nat × Nat)) (AC : List (Nat × Nat × Nat × Int)) (IN : Option Nat) (hin : ∀ j r, IN = some j → z_cl[j]? = some r → r.1 = "StarTalesLaw") : z_KS Ts z_TB z_cl z_FT "StarTalesLaw" z_MT (z_KF12, z_KC12, z_KL12, z_KT12, CA, NA, AC, IN) := zk_ks z_kcl z_kM z_k9 z_k8 z_ka (pF := []) (pC := [(137, 138, 115), (1408, 1409, 128)]) (pL := [(139, 140, 0), (1410, 1411, 0), (610, 611, 612), (1607, 1608, 1609), (620, 621, 622), (1617, 1618, 1619), (628, 629, 630), (1628, 1629, 1630), (632, 633, 634), (1632, 1633, 1634), (636, 637, 638), (1636, 1637, 1638), (641, 642, 643), (1641, 1642, 1643), (645, 646, 647), (1645, 1646, 1647), (664, 665, 666), (1653, 1654, 1655), (678, 679, 680), (1661, 1662, 1663), (686, 687, 688), (1669, 1670, 1671), (851, 852, 853), (1853, 1854, 1855), (870, 871, 872), (1755, 1756, 1757), (878, 879, 880), (1763, 1764, 1765), (932, 933, 934), (1807, 1808, 1809), (952, 953, 954), (1819, 1820, 1821), (996, 997, 998), (1849, 1850, 1851), (1001, 1002, 1003), (1869, 1870, 1871), (1047, 1048, 1049), (1885, 1886, 1887), (1057, 1058, 1059), (1893, 1894, 1895), (1068, 1069, 1070), (1897, 1898, 1899), (1111, 1112, 1113), (1924, 1925, 1926), (1129, 1130, 1131), (1933, 1934, 1935), (1148, 1149, 1150), (1950, 1951, 1952), (1182, 1183, 1184), (1958, 1959, 1960), (1233, 1234, 1235), (1989, 1990, 1991), (1237, 1238, 1239), (1993, 1994, 1995), (1243, 1244, 1245), (2008, 2009, 2010), (1262, 1263, 1264), (2019, 2020, 2021), (1287, 1288, 1289), (2027, 2028, 2029), (1308, 1309, 1310), (2039, 2040, 2041), (1316, 1317, 1318), (2047, 2048, 2049), (1337, 1338, 1339), (2055, 2056, 2057), (1358, 1359, 1360), (2063, 2064, 2065), (1363, 1364, 1365), (2067, 2068, 2069), (1372, 1373, 1374), (2071, 2072, 2073), (1377, 1378, 1379), (2076, 2077, 2078), (1386, 1387, 1388), (2080, 2081, 2082), (1390, 1391, 1392), (2084, 2085, 2086), (1399, 1400, 1401), (2092, 2093, 2094)]) (pT := []) (by decide +kernel) (by decide +kernel) (by decide +kernel) (by decide +kernel) Ts hTs CA NA AC IN hin
def z_KF13 : List (Nat × Nat × Nat) := [(7, 12, 0), (13, 12, 1), (16, 12, 2), (19, 12, 3), (23, 12, 14), (26, 12, 15), (29, 12, 16), (32, 12, 17), (35, 12, 18), (38, 12, 19), (41, 12, 20), (44, 12, 21), (47, 12, 22), (50, 12, 23), (53, 12, 24), (56, 12, 25), (59, 12, 26), (62, 12, 28), (65, 12, 34), (68, 12, 35), (71, 12, 36), (74, 12, 37), (77, 12, 38), (80, 12, 39), (83, 12, 40), (86, 12, 42), (89, 12, 43), (92, 12, 44), (95, 12, 45), (98, 12, 46), (101, 12, 47), (104, 12, 49), (107, 12, 50), (110, 12, 51), (113, 12, 52), (116, 12, 53), (119, 12, 54), (122, 12, 59), (125, 12, 60), (128, 12, 61), (131, 12, 62), (168, 12, 4), (176, 12, 5), (179, 12, 6), (186, 12, 7), (192, 12, 12), (199, 12, 9), (203, 12, 8), (206, 12, 10), (256, 12, 11), (268, 12, 13), (303, 12, 27), (312, 12, 29), (315, 12, 30), (339, 12, 32), (351, 12, 31), (354, 12, 33), (357, 12, 41), (395, 12, 48), (454, 12, 55), (457, 12, 56), (460, 12, 57), (463, 12, 58), (479, 12, 63)]
def z_KC13 : List (Nat × Nat) := []
def z_KL13 : List (Nat × Nat × Nat) := [(1, 9, 0), (134, 1, 300), (138, 1, 204), (142, 1, 242), (146, 1, 243), (150, 1, 200), (154, 1, 201), (157, 0, 203), (162, 0, 210), (165, 0, 212), (172, 0, 214), (182, 0, 217), (189, 0, 219), (195, 0, 223), (209, 0, 229), (212, 0, 225), (216, 0, 222), (219, 0, 224), (222, 1, 226), (225, 0, 221), (228, 1, 227), (231, 0, 228), (235, 0, 230), (238, 0, 220), (241, 0, 233), (244, 0, 232), (247, 0, 234), (250, 0, 235), (253, 1, 218), (259, 0, 231), (262, 0, 216), (265, 0, 236), (271, 1, 250), (275, 0, 249), (278, 0, 246), (281, 0, 238), (284, 0, 244), (287, 0, 245), (290, 1, 247), (294, 0, 248), (297, 0, 241), (300, 0, 240), (306, 0, 253), (309, 0, 252), (318, 0, 256), (321, 1, 257), (324, 1, 258), (327, 0, 255), (330, 0, 259), (333, 0, 260), (336, 0, 261), (342, 0, 265), (345, 0, 266), (348, 0, 264), (360, 0, 269), (363, 0, 270), (366, 0, 268), (369, 0, 272), (372, 0, 277), (375, 1, 278), (379, 0, 276), (382, 0, 280), (385, 0, 275), (388, 0, 279), (392, 0, 282), (399, 0, 286), (402, 0, 284), (405, 0, 285), (408, 0, 288), (411, 1, 296), (414, 0, 295), (418, 1, 293), (421, 0, 291), (424, 0, 292), (427, 0, 294), (430, 0, 290), (434, 0, 299), (437, 0, 301), (440, 1, 304), (443, 0, 303), (447, 0, 306), (450, 0, 309), (466, 0, 308), (469, 0, 311), (472, 0, 313), (475, 0, 315), (483, 0, 322), (486, 0, 324)]
def z_KT13 : List (Nat × Int32) := [(161, 16777215), (202, 1048576), (391, 1000000000), (398, 16777216), (417, 65536), (478, 65535)]
theorem z_ks13 (Ts : List Cond) (hTs : ∀ w ∈ z_TB, w ∈ Ts) (CA NA : List (Nat × Nat)) (AC : List (Nat × Nat × Nat × Int)) (IN : Option Nat) (hin : ∀ j r, IN = some j → z_cl[j]? = some r → r.1 = "StarTalesModel") : z_KS Ts z_TB z_cl z_FT "StarTalesModel" z_MT (z_KF13, z_KC13, z_KL13, z_KT13, CA, NA, AC, IN) := zk_ks z_kcl z_kM z_k9 z_k8 z_ka (pF := [1414, 1415, 1416, 1417, 1428, 1429, 1430, 1431, 1432, 1433, 1434, 1435, 1436, 1437, 1438, 1439, 1440, 1442, 1448, 1449, 1450, 1451, 1452, 1453, 1454, 1456, 1457, 1458, 1459, 1460, 1461, 1463, 1464, 1465, 1466, 1467, 1468, 1473, 1474, 1475, 1476, 1418, 1419, 1420, 1421, 1426, 1423, 1422, 1424, 1425, 1427, 1441, 1443, 1444, 1446, 1445, 1447, 1455, 1462, 1469, 1470, 1471, 1472, 1477]) (pC := []) (pL := [(1413, 0, 0), (2001, 2002, 0), (1625, 1626, 0), (1775, 1776, 0), (1778, 1779, 0), (1611, 1612, 0), (1614, 1615, 0), (1621, 1623, 44), (1649, 1651, 45), (1657, 1659, 46), (1665, 1667, 47), (1677, 1679, 49), (1684, 1686, 50), (1701, 1703, 54), (1723, 1725, 58), (1709, 1711, 56), (1696, 1698, 53), (1705, 1707, 55), (1713, 1714, 0), (1692, 1694, 52), (1716, 1717, 0), (1719, 1721, 57), (1727, 1729, 59), (1688, 1690, 51), (1739, 1741, 62), (1735, 1737, 61), (1743, 1745, 63), (1747, 1749, 64), (1681, 1682, 0), (1731, 1733, 60), (1673, 1675, 48), (1751, 1753, 65), (1804, 1805, 0), (1800, 1802, 73), (1789, 1791, 71), (1759, 1761, 66), (1781, 1783, 69), (1785, 1787, 70), (1793, 1794, 0), (1796, 1798, 72), (1771, 1773, 68), (1767, 1769, 67), (1815, 1817, 75), (1811, 1813, 74), (1827, 1829, 77), (1831, 1832, 0), (1834, 1835, 0), (1823, 1825, 76), (1837, 1839, 78), (1841, 1843, 79), (1845, 1847, 80), (1861, 1863, 82), (1865, 1867, 83), (1857, 1859, 81), (1877, 1879, 85), (1881, 1883, 86), (1873, 1875, 84), (1889, 1891, 87), (1909, 1911, 90), (1913, 1914, 0), (1905, 1907, 89), (1920, 1922, 92), (1901, 1903, 88), (1916, 1918, 91), (1929, 1931, 93), (1946, 1948, 96), (1937, 1939, 94), (1941, 1943, 95), (1954, 1956, 97), (1986, 1987, 0), (1982, 1984, 102), (1975, 1976, 0), (1966, 1968, 99), (1971, 1973, 100), (1978, 1980, 101), (1962, 1964, 98), (1997, 1999, 103), (2004, 2006, 104), (2016, 2017, 0), (2012, 2014, 105), (2023, 2025, 106), (2035, 2037, 108), (2031, 2033, 107), (2043, 2045, 109), (2051, 2053, 110), (2059, 2061, 111), (2088, 2090, 112), (2096, 2098, 113)]) (pT := [1640, 1700, 1928, 1945, 1970, 2075]) (by decide +kernel) (by decide +kernel) (by decide +kernel) (by decide +kernel) Ts hTs CA NA AC IN hin
def z_KF14 : List (Nat × Nat × Nat) := []
def z_KC14 : List (Nat × Nat) := []
def z_KL14 : List (Nat × Nat × Nat) := []
def z_KT14 : List (Nat × Int32) := [(76, 56320), (110, 55232)]
theorem z_ks14 (Ts : List Cond) (hTs : ∀ w ∈ z_TB, w ∈ Ts) (CA NA : List (Nat × Nat)) (AC : List (Nat × Nat × Nat × Int)) (IN : Option Nat) (hin : ∀ j r, IN = some j → z_cl[j]? = some r → r.1 = "java/lang/Character") : z_KS Ts z_TB z_cl z_FT "java/lang/Character" z_MT (z_KF14, z_KC14, z_KL14, z_KT14, CA, NA, AC, IN) := zk_ks z_kcl z_kM z_k9 z_k8 z_ka (pF := []) (pC := []) (pL := []) (pT := [822, 818]) (by decide +kernel) (by decide +kernel) (by decide +kernel) (by decide +kernel) Ts hTs CA NA AC IN hin
def z_KF15 : List (Nat × Nat × Nat) := []
def z_KC15 : List (Nat × Nat) := []
def z_KL15 : List (Nat × Nat × Nat) := []
def z_KT15 : List (Nat × Int32) := [(265, 1431655765), (266, 858993459), (267, 252645135)]
theorem z_ks15 (Ts : List Cond) (hTs : ∀ w ∈ z_TB, w ∈ Ts) (CA NA : List (Nat × Nat)) (AC : List (Nat × Nat × Nat × Int)) (IN : Option Nat) (hin : ∀ j r, IN = some j → z_cl[j]? = some r → r.1 = "java/lang/Integer") : z_KS Ts z_TB z_cl z_FT "java/lang/Integer" z_MT (z_KF15, z_KC15, z_KL15, z_KT15, CA, NA, AC, IN) := zk_ks z_kcl z_kM z_k9 z_k8 z_ka (pF := []) (pC := []) (pL := []) (pT := [963, 964, 965]) (by decide +kernel) (by decide +kernel) (by decide +kernel) (by decide +kernel) Ts hTs CA NA AC IN hin
def z_KF16 : List (Nat × Nat × Nat) := []
def z_KC16 : List (Nat × Nat) := []
def z_KL16 : List (Nat × Nat × Nat) := []
def z_KT16 : List (Nat × Int32) := []
theorem z_ks16 (Ts : List Cond) (hTs : ∀ w ∈ z_TB, w ∈ Ts) (CA NA : List (Nat × Nat)) (AC : List (Nat × Nat × Nat × Int)) (IN : Option Nat) (hin : ∀ j r, IN = some j → z_cl[j]? = some r → r.1 = "java/lang/Math") : z_KS Ts z_TB z_cl z_FT "java/lang/Math" z_MT (z_KF16, z_KC16, z_KL16, z_KT16, CA, NA, AC, IN) := zk_ks z_kcl z_kM z_k9 z_k8 z_ka (pF := []) (pC := []) (pL := []) (pT := []) (by decide +kernel) (by decide +kernel) (by decide +kernel) (by decide +kernel) Ts hTs CA NA AC IN hin
def z_KF17 : List (Nat × Nat × Nat) := []
def z_KC17 : List (Nat × Nat) := []
def z_KL17 : List (Nat × Nat × Nat) := [(637, 1, 53), (640, 1, 57), (1062, 1, 62)]
def z_KT17 : List (Nat × Int32) := []
theorem z_ks17 (Ts : List Cond) (hTs : ∀ w ∈ z_TB, w ∈ Ts) (CA NA : List (Nat × Nat)) (AC : List (Nat × Nat × Nat × Int)) (IN : Option Nat) (hin : ∀ j r, IN = some j → z_cl[j]? = some r → r.1 = "java/lang/String") : z_KS Ts z_TB z_cl z_FT "java/lang/String" z_MT (z_KF17, z_KC17, z_KL17, z_KT17, CA, NA, AC, IN) := zk_ks z_kcl z_kM z_k9 z_k8 z_ka (pF := []) (pC := []) (pL := [(761, 762, 0), (774, 775, 0), (794, 795, 0)]) (pT := []) (by decide +kernel) (by decide +kernel) (by decide +kernel) (by decide +kernel) Ts hTs CA NA AC IN hin
def z_KF18 : List (Nat × Nat × Nat) := []
def z_KC18 : List (Nat × Nat) := []
def z_KL18 : List (Nat × Nat × Nat) := [(38, 1, 37), (88, 1, 54), (92, 1, 55), (95, 1, 56)]
def z_KT18 : List (Nat × Int32) := []
theorem z_ks18 (Ts : List Cond) (hTs : ∀ w ∈ z_TB, w ∈ Ts) (CA NA : List (Nat × Nat)) (AC : List (Nat × Nat × Nat × Int)) (IN : Option Nat) (hin : ∀ j r, IN = some j → z_cl[j]? = some r → r.1 = "java/lang/StringLatin1") : z_KS Ts z_TB z_cl z_FT "java/lang/StringLatin1" z_MT (z_KF18, z_KC18, z_KL18, z_KT18, CA, NA, AC, IN) := zk_ks z_kcl z_kM z_k9 z_k8 z_ka (pF := []) (pC := []) (pL := [(770, 699, 0), (764, 765, 0), (767, 768, 0), (771, 772, 0)]) (pT := []) (by decide +kernel) (by decide +kernel) (by decide +kernel) (by decide +kernel) Ts hTs CA NA AC IN hin
def z_KF19 : List (Nat × Nat × Nat) := []
def z_KC19 : List (Nat × Nat) := []
def z_KL19 : List (Nat × Nat × Nat) := [(48, 1, 60), (71, 1, 64), (96, 1, 59), (157, 1, 67), (161, 1, 68), (164, 1, 66), (183, 1, 37), (224, 1, 55), (228, 1, 58), (232, 1, 65), (241, 1, 61), (244, 1, 63)]
def z_KT19 : List (Nat × Int32) := [(227, 65536)]
theorem z_ks19 (Ts : List Cond) (hTs : ∀ w ∈ z_TB, w ∈ Ts) (CA NA : List (Nat × Nat)) (AC : List (Nat × Nat × Nat × Int)) (IN : Option Nat) (hin : ∀ j r, IN = some j → z_cl[j]? = some r → r.1 = "java/lang/StringUTF16") : z_KS Ts z_TB z_cl z_FT "java/lang/StringUTF16" z_MT (z_KF19, z_KC19, z_KL19, z_KT19, CA, NA, AC, IN) := zk_ks z_kcl z_kM z_k9 z_k8 z_ka (pF := []) (pC := []) (pL := [(786, 787, 0), (800, 801, 0), (783, 784, 0), (815, 816, 0), (819, 820, 0), (812, 813, 0), (778, 699, 0), (777, 768, 0), (780, 781, 0), (809, 810, 0), (789, 790, 0), (797, 798, 0)]) (pT := [779]) (by decide +kernel) (by decide +kernel) (by decide +kernel) (by decide +kernel) Ts hTs CA NA AC IN hin
def z_KF20 : List (Nat × Nat × Nat) := []
def z_KC20 : List (Nat × Nat) := []
def z_KL20 : List (Nat × Nat × Nat) := []
def z_KT20 : List (Nat × Int32) := []
theorem z_ks20 (Ts : List Cond) (hTs : ∀ w ∈ z_TB, w ∈ Ts) (CA NA : List (Nat × Nat)) (AC : List (Nat × Nat × Nat × Int)) (IN : Option Nat) (hin : ∀ j r, IN = some j → z_cl[j]? = some r → r.1 = "java/util/Arrays") : z_KS Ts z_TB z_cl z_FT "java/util/Arrays" z_MT (z_KF20, z_KC20, z_KL20, z_KT20, CA, NA, AC, IN) := zk_ks z_kcl z_kM z_k9 z_k8 z_ka (pF := []) (pC := []) (pL := []) (pT := []) (by decide +kernel) (by decide +kernel) (by decide +kernel) (by decide +kernel) Ts hTs CA NA AC IN hin
def z_KF21 : List (Nat × Nat × Nat) := []
def z_KC21 : List (Nat × Nat) := []
def z_KL21 : List (Nat × Nat × Nat) := []
def z_KT21 : List (Nat × Int32) := []
theorem z_ks21 (Ts : List Cond) (hTs : ∀ w ∈ z_TB, w ∈ Ts) (CA NA : List (Nat × Nat)) (AC : List (Nat × Nat × Nat × Int)) (IN : Option Nat) (hin : ∀ j r, IN = some j → z_cl[j]? = some r → r.1 = "jdk/internal/util/Preconditions") : z_KS Ts z_TB z_cl z_FT "jdk/internal/util/Preconditions" z_MT (z_KF21, z_KC21, z_KL21, z_KT21, CA, NA, AC, IN) := zk_ks z_kcl z_kM z_k9 z_k8 z_ka (pF := []) (pC := []) (pL := []) (pT := []) (by decide +kernel) (by decide +kernel) (by decide +kernel) (by decide +kernel) Ts hTs CA NA AC IN hin
end
section
/-! The reading of laws by the reference: the layout; its smallest methods. -/
abbrev zyM : zNL := (15, [(0, 12)], [(0, 12, 5, 0), (0, 12, 6, 1), (0, 12, 7, 2), (0, 12, 8, 3), (0, 12, 9, 4), (0, 12, 10, 5), (0, 12, 12, 6), (0, 12, 11, 7), (0, 12, 4, 8), (0, 12, 13, 9)], [(0, 12, 3, 1), (0, 12, 14, 2), (0, 12, 15, 3), (0, 12, 16, 4), (0, 12, 17, 5), (0, 12, 18, 6), (0, 12, 19, 7), (0, 12, 20, 8), (0, 12, 21, 9), (0, 12, 22, 10), (0, 12, 23, 11), (0, 12, 24, 12), (0, 12, 25, 13), (0, 12, 26, 14)], [(1, 1, 220, 0), (2, 0, 220, 1), (3, 0, 220, 2), (4, 0, 14, 3), (5, 0, 14, 4), (6, 0, 14, 5), (7, 0, 14, 6), (8, 0, 220, 7), (9, 0, 14, 8), (10, 0, 14, 9), (11, 0, 14, 10), (12, 0, 14, 11), (13, 0, 220, 12), (14, 0, 13, 13)])
abbrev zkM : zK := (z_KF13, z_KC13, z_KL13, z_KT13, [], [], [], none)
/-- the byte that comes next -/
def zp_h (tape : Int → Int) (pl len : Int) : Int := if pl < len then (Int32.ofInt (tape pl) &&& 255).toInt else -1
theorem zp_h_eq {tape : Int → Int} {pl len : Int} {u v : Int32} (hu : u.toInt = tape pl) (hv : v.toInt = 255) (h : pl < len) : (u &&& v).toInt = zp_h tape pl len := by
  have e1 : Int32.ofInt (tape pl) = u := by rw [← hu]; exact Int32.ofInt_toInt u
  have e2 : v = 255 := Int32.toInt_inj.mp (by rw [hv]; rfl)
  unfold zp_h
  rw [if_pos h, e1, e2]
theorem zp_h_lt {tape : Int → Int} {pl len : Int} (h : 0 ≤ zp_h tape pl len) : pl < len := by
  unfold zp_h at h
  split at h
  · assumption
  · omega
theorem zp_h_no {tape : Int → Int} {pl len : Int} (h : ¬ pl < len) : zp_h tape pl len = -1 := if_neg h
/-- the top of what waits -/
def zp_t (w : Int → Int) (wt : Int) : Int := if wt = 0 then -1 else w (wt - 1) / 1048576
theorem zd217_0 : decode zxm217.2.1 0 = .ok (.aload_n 0, 1) := by decide +kernel
theorem zd217_1 : decode zxm217.2.1 1 = .ok (.getfield 176, 3) := by decide +kernel
theorem zd217_4 : decode zxm217.2.1 4 = .ok (.aload_n 0, 1) := by decide +kernel
theorem zd217_5 : decode zxm217.2.1 5 = .ok (.getfield 179, 3) := by decide +kernel
theorem zd217_8 : decode zxm217.2.1 8 = .ok (.if_icmp .ge 19, 3) := by decide +kernel
theorem zd217_11 : decode zxm217.2.1 11 = .ok (.aload_n 0, 1) := by decide +kernel
theorem zd217_12 : decode zxm217.2.1 12 = .ok (.getfield 19, 3) := by decide +kernel
theorem zd217_15 : decode zxm217.2.1 15 = .ok (.aload_n 0, 1) := by decide +kernel
theorem zd217_16 : decode zxm217.2.1 16 = .ok (.getfield 176, 3) := by decide +kernel
theorem zd217_19 : decode zxm217.2.1 19 = .ok (.baload, 1) := by decide +kernel
theorem zd217_20 : decode zxm217.2.1 20 = .ok (.sipush 255, 3) := by decide +kernel
theorem zd217_23 : decode zxm217.2.1 23 = .ok (.iand, 1) := by decide +kernel
theorem zd217_24 : decode zxm217.2.1 24 = .ok (.goto 4, 3) := by decide +kernel
theorem zd217_27 : decode zxm217.2.1 27 = .ok (.iconst (-1), 1) := by decide +kernel
theorem zd217_28 : decode zxm217.2.1 28 = .ok (.ireturn, 1) := by decide +kernel
theorem zh217 {pl len : Int} {tape : Int → Int} {Fr : List Int} {Gr : List (Int → Int)} : zn_OK z_TB z_cl z_KX zyM zxm217 (0, 0) (fun va F G => va = [.inr 0] ∧ F = pl :: len :: Fr ∧ G = tape :: Gr ∧ 0 ≤ pl ∧ (pl < len → pl < 220)) (fun va F G r F' G' => F' = F ∧ G' = G ∧ r = some (zp_h tape pl len)) := zn_meth (K := zkM) (FT := z_FT) (MT := z_MT) (n := 1) zxp217 (z_ks13 _ (fun _ h => List.mem_cons_of_mem _ h) _ _ _ _ (fun j r h _ => by cases h)) (fun _ _ => zs_K_p) (by decide +kernel) (fun va F G h => by obtain ⟨rfl, _⟩ := h; rfl) rfl fun good va F G hB hret hvret hP => by
  obtain ⟨rfl, rfl, rfl, h0, h1⟩ := hP
  refine zn_ald hB zd217_0 rfl rfl rfl ?_
  refine zn_getf hB zd217_1 rfl rfl (fun q1 r1 => ?_)
  refine zn_ald hB zd217_4 rfl rfl rfl ?_
  refine zn_getf hB zd217_5 rfl rfl (fun q5 r5 => ?_)
  refine zn_cge hB zd217_8 rfl (fun h8 => ?_) (fun h8 => ?_)
  · refine zn_con hB zd217_27 rfl ?_
    exact hret _ _ _ _ _ zd217_28 trivial ⟨rfl, rfl, by first | rw [zp_h_no (by omega)] | rw [zp_h_eq q23 r23 h8]⟩
  · refine zn_ald hB zd217_11 rfl rfl rfl ?_
    refine zn_getr hB zd217_12 rfl ?_
    refine zn_ald hB zd217_15 rfl rfl rfl ?_
    refine zn_getf hB zd217_16 rfl rfl (fun q16 r16 => ?_)
    refine zn_bald hB zd217_19 rfl rfl (by omega) (by omega) (fun q19 r19 => ?_)
    refine zn_con hB zd217_20 rfl ?_
    refine zn_bin hB zd217_23 rfl (fun u23 v23 q23 r23 => ?_)
    refine zn_goto hB zd217_24 rfl ?_
    exact hret _ _ _ _ _ zd217_28 trivial ⟨rfl, rfl, by first | rw [zp_h_no (by omega)] | rw [zp_h_eq q23 r23 h8]⟩
theorem zd223_0 : decode zxm223.2.1 0 = .ok (.aload_n 0, 1) := by decide +kernel
theorem zd223_1 : decode zxm223.2.1 1 = .ok (.invokevirtual 182, 3) := by decide +kernel
theorem zd223_4 : decode zxm223.2.1 4 = .ok (.bipush 48, 2) := by decide +kernel
theorem zd223_6 : decode zxm223.2.1 6 = .ok (.if_icmp .lt 16, 3) := by decide +kernel
theorem zd223_9 : decode zxm223.2.1 9 = .ok (.aload_n 0, 1) := by decide +kernel
theorem zd223_10 : decode zxm223.2.1 10 = .ok (.invokevirtual 182, 3) := by decide +kernel
theorem zd223_13 : decode zxm223.2.1 13 = .ok (.bipush 57, 2) := by decide +kernel
theorem zd223_15 : decode zxm223.2.1 15 = .ok (.if_icmp .gt 7, 3) := by decide +kernel
theorem zd223_18 : decode zxm223.2.1 18 = .ok (.iconst 1, 1) := by decide +kernel
theorem zd223_19 : decode zxm223.2.1 19 = .ok (.goto 4, 3) := by decide +kernel
theorem zd223_22 : decode zxm223.2.1 22 = .ok (.iconst 0, 1) := by decide +kernel
theorem zd223_23 : decode zxm223.2.1 23 = .ok (.ireturn, 1) := by decide +kernel
theorem zh223 {pl len : Int} {tape : Int → Int} {Fr : List Int} {Gr : List (Int → Int)} : zn_OK z_TB z_cl z_KX zyM zxm223 (1, 60) (fun va F G => va = [.inr 0] ∧ F = pl :: len :: Fr ∧ G = tape :: Gr ∧ 0 ≤ pl ∧ (pl < len → pl < 220)) (fun va F G r F' G' => F' = F ∧ G' = G ∧ (r = some 1 ∧ 48 ≤ zp_h tape pl len ∧ zp_h tape pl len ≤ 57 ∨ r = some 0 ∧ (zp_h tape pl len < 48 ∨ 57 < zp_h tape pl len))) := zn_meth (K := zkM) (FT := z_FT) (MT := z_MT) (n := 1) zxp223 (z_ks13 _ (fun _ h => List.mem_cons_of_mem _ h) _ _ _ _ (fun j r h _ => by cases h)) (fun _ _ => zs_K_p) (by decide +kernel) (fun va F G h => by obtain ⟨rfl, _⟩ := h; rfl) rfl fun good va F G hB hret hvret hP => by
  obtain ⟨rfl, rfl, rfl, h0, h1⟩ := hP
  refine zn_ald hB zd223_0 rfl rfl rfl ?_
  refine zn_iv0 hB (zh217 (pl := pl) (len := len) (tape := tape) (Fr := Fr) (Gr := Gr)) zd223_1 zxt217 rfl ⟨rfl, rfl, rfl, h0, h1⟩ (fun r1 F1 G1 hq1 => ?_)
  obtain ⟨rfl, rfl, rfl⟩ := hq1
  refine zn_con hB zd223_4 rfl ?_
  refine zn_clt hB zd223_6 rfl (fun h6 => ?_) (fun h6 => ?_)
  · refine zn_con hB zd223_22 rfl ?_
    refine hret _ _ _ _ _ zd223_23 (by constructor <;> decide) ⟨rfl, rfl, ?_⟩
    first | exact Or.inl ⟨rfl, by omega, by omega⟩ | exact Or.inr ⟨rfl, by omega⟩
  · refine zn_ald hB zd223_9 rfl rfl rfl ?_
    refine zn_iv0 hB (zh217 (pl := pl) (len := len) (tape := tape) (Fr := Fr) (Gr := Gr)) zd223_10 zxt217 rfl ⟨rfl, rfl, rfl, h0, h1⟩ (fun r10 F10 G10 hq10 => ?_)
    obtain ⟨rfl, rfl, rfl⟩ := hq10
    refine zn_con hB zd223_13 rfl ?_
    refine zn_cgt hB zd223_15 rfl (fun h15 => ?_) (fun h15 => ?_)
    · refine zn_con hB zd223_22 rfl ?_
      refine hret _ _ _ _ _ zd223_23 (by constructor <;> decide) ⟨rfl, rfl, ?_⟩
      first | exact Or.inl ⟨rfl, by omega, by omega⟩ | exact Or.inr ⟨rfl, by omega⟩
    · refine zn_con hB zd223_18 rfl ?_
      refine zn_goto hB zd223_19 rfl ?_
      refine hret _ _ _ _ _ zd223_23 (by constructor <;> decide) ⟨rfl, rfl, ?_⟩
      first | exact Or.inl ⟨rfl, by omega, by omega⟩ | exact Or.inr ⟨rfl, by omega⟩
theorem zd219_0 : decode zxm219.2.1 0 = .ok (.aload_n 0, 1) := by decide +kernel
theorem zd219_1 : decode zxm219.2.1 1 = .ok (.sipush (-1000), 3) := by decide +kernel
theorem zd219_4 : decode zxm219.2.1 4 = .ok (.iload_n 1, 1) := by decide +kernel
theorem zd219_5 : decode zxm219.2.1 5 = .ok (.imul, 1) := by decide +kernel
theorem zd219_6 : decode zxm219.2.1 6 = .ok (.iload_n 2, 1) := by decide +kernel
theorem zd219_7 : decode zxm219.2.1 7 = .ok (.isub, 1) := by decide +kernel
theorem zd219_8 : decode zxm219.2.1 8 = .ok (.putfield 186, 3) := by decide +kernel
theorem zd219_11 : decode zxm219.2.1 11 = .ok (.iconst 0, 1) := by decide +kernel
theorem zd219_12 : decode zxm219.2.1 12 = .ok (.ireturn, 1) := by decide +kernel
theorem zh219 {what whr pl len fl : Int} {Fr : List Int} : zn_OK z_TB z_cl z_KX zyM zxm219 (0, 0) (fun va F G => va = [.inr 0, .inl what, .inl whr] ∧ F = pl :: len :: fl :: Fr) (fun va F G r F' G' => r = some 0 ∧ ∃ fl', F' = pl :: len :: fl' :: Fr ∧ G' = G) := zn_meth (K := zkM) (FT := z_FT) (MT := z_MT) (n := 3) zxp219 (z_ks13 _ (fun _ h => List.mem_cons_of_mem _ h) _ _ _ _ (fun j r h _ => by cases h)) (fun _ _ => zs_K_p) (by decide +kernel) (fun va F G h => by obtain ⟨rfl, _⟩ := h; rfl) rfl fun good va F G hB hret hvret hP => by
  obtain ⟨rfl, rfl⟩ := hP
  refine zn_ald hB zd219_0 rfl rfl rfl ?_
  refine zn_con hB zd219_1 rfl ?_
  refine zn_ild hB zd219_4 rfl rfl ?_
  refine zn_any hB zd219_5 rfl (fun v5 q5 r5 => ?_)
  refine zn_ild hB zd219_6 rfl rfl ?_
  refine zn_any hB zd219_7 rfl (fun v7 q7 r7 => ?_)
  refine zn_putf hB zd219_8 rfl rfl (fun h => by cases h) rfl ?_
  refine zn_con hB zd219_11 rfl ?_
  exact hret _ _ _ _ _ zd219_12 (by constructor <;> decide) ⟨rfl, _, rfl, rfl⟩
theorem zd218_0 : decode zxm218.2.1 0 = .ok (.iload_n 0, 1) := by decide +kernel
theorem zd218_1 : decode zxm218.2.1 1 = .ok (.bipush 118, 2) := by decide +kernel
theorem zd218_3 : decode zxm218.2.1 3 = .ok (.if_icmp .eq 27, 3) := by decide +kernel
theorem zd218_6 : decode zxm218.2.1 6 = .ok (.iload_n 0, 1) := by decide +kernel
theorem zd218_7 : decode zxm218.2.1 7 = .ok (.bipush 106, 2) := by decide +kernel
theorem zd218_9 : decode zxm218.2.1 9 = .ok (.if_icmp .eq 21, 3) := by decide +kernel
theorem zd218_12 : decode zxm218.2.1 12 = .ok (.iload_n 0, 1) := by decide +kernel
theorem zd218_13 : decode zxm218.2.1 13 = .ok (.bipush 119, 2) := by decide +kernel
theorem zd218_15 : decode zxm218.2.1 15 = .ok (.if_icmp .eq 15, 3) := by decide +kernel
theorem zd218_18 : decode zxm218.2.1 18 = .ok (.iload_n 0, 1) := by decide +kernel
theorem zd218_19 : decode zxm218.2.1 19 = .ok (.bipush 103, 2) := by decide +kernel
theorem zd218_21 : decode zxm218.2.1 21 = .ok (.if_icmp .eq 9, 3) := by decide +kernel
theorem zd218_24 : decode zxm218.2.1 24 = .ok (.iload_n 0, 1) := by decide +kernel
theorem zd218_25 : decode zxm218.2.1 25 = .ok (.bipush 113, 2) := by decide +kernel
theorem zd218_27 : decode zxm218.2.1 27 = .ok (.if_icmp .ne 7, 3) := by decide +kernel
theorem zd218_30 : decode zxm218.2.1 30 = .ok (.iconst 1, 1) := by decide +kernel
theorem zd218_31 : decode zxm218.2.1 31 = .ok (.goto 4, 3) := by decide +kernel
theorem zd218_34 : decode zxm218.2.1 34 = .ok (.iconst 0, 1) := by decide +kernel
theorem zd218_35 : decode zxm218.2.1 35 = .ok (.ireturn, 1) := by decide +kernel
theorem zh218 {c : Int} : zn_OK z_TB z_cl z_KX zyM zxm218 (0, 0) (fun va F G => va = [.inl c]) (fun va F G r F' G' => F' = F ∧ G' = G ∧ (r = some 1 ∧ 0 ≤ c ∨ r = some 0)) := zn_meth (K := zkM) (FT := z_FT) (MT := z_MT) (n := 1) zxp218 (z_ks13 _ (fun _ h => List.mem_cons_of_mem _ h) _ _ _ _ (fun j r h _ => by cases h)) (fun _ _ => zs_K_p) (by decide +kernel) (fun va F G h => by obtain ⟨rfl, _⟩ := h; rfl) rfl fun good va F G hB hret hvret hP => by
  subst hP
  refine zn_ild hB zd218_0 rfl rfl ?_
  refine zn_con hB zd218_1 rfl ?_
  refine zn_ceq hB zd218_3 rfl (fun h3 => ?_) (fun h3 => ?_)
  · refine zn_con hB zd218_30 rfl ?_
    refine zn_goto hB zd218_31 rfl ?_
    refine hret _ _ _ _ _ zd218_35 (by constructor <;> decide) ⟨rfl, rfl, ?_⟩
    first | exact Or.inl ⟨rfl, by omega⟩ | exact Or.inr rfl
  · refine zn_ild hB zd218_6 rfl rfl ?_
    refine zn_con hB zd218_7 rfl ?_
    refine zn_ceq hB zd218_9 rfl (fun h9 => ?_) (fun h9 => ?_)
    · refine zn_con hB zd218_30 rfl ?_
      refine zn_goto hB zd218_31 rfl ?_
      refine hret _ _ _ _ _ zd218_35 (by constructor <;> decide) ⟨rfl, rfl, ?_⟩
      first | exact Or.inl ⟨rfl, by omega⟩ | exact Or.inr rfl
    · refine zn_ild hB zd218_12 rfl rfl ?_
      refine zn_con hB zd218_13 rfl ?_
      refine zn_ceq hB zd218_15 rfl (fun h15 => ?_) (fun h15 => ?_)
      · refine zn_con hB zd218_30 rfl ?_
        refine zn_goto hB zd218_31 rfl ?_
        refine hret _ _ _ _ _ zd218_35 (by constructor <;> decide) ⟨rfl, rfl, ?_⟩
        first | exact Or.inl ⟨rfl, by omega⟩ | exact Or.inr rfl
      · refine zn_ild hB zd218_18 rfl rfl ?_
        refine zn_con hB zd218_19 rfl ?_
        refine zn_ceq hB zd218_21 rfl (fun h21 => ?_) (fun h21 => ?_)
        · refine zn_con hB zd218_30 rfl ?_
          refine zn_goto hB zd218_31 rfl ?_
          refine hret _ _ _ _ _ zd218_35 (by constructor <;> decide) ⟨rfl, rfl, ?_⟩
          first | exact Or.inl ⟨rfl, by omega⟩ | exact Or.inr rfl
        · refine zn_ild hB zd218_24 rfl rfl ?_
          refine zn_con hB zd218_25 rfl ?_
          refine zn_cne hB zd218_27 rfl (fun h27 => ?_) (fun h27 => ?_)
          · refine zn_con hB zd218_34 rfl ?_
            refine hret _ _ _ _ _ zd218_35 (by constructor <;> decide) ⟨rfl, rfl, ?_⟩
            first | exact Or.inl ⟨rfl, by omega⟩ | exact Or.inr rfl
          · refine zn_con hB zd218_30 rfl ?_
            refine zn_goto hB zd218_31 rfl ?_
            refine hret _ _ _ _ _ zd218_35 (by constructor <;> decide) ⟨rfl, rfl, ?_⟩
            first | exact Or.inl ⟨rfl, by omega⟩ | exact Or.inr rfl
theorem zd226_0 : decode zxm226.2.1 0 = .ok (.iload_n 0, 1) := by decide +kernel
theorem zd226_1 : decode zxm226.2.1 1 = .ok (.tableswitch 140 99 121 #[117, 137, 128, 140, 140, 107, 111, 140, 119, 140, 113, 122, 140, 140, 140, 115, 125, 140, 109, 140, 140, 131, 134], 107) := by decide +kernel
theorem zd226_108 : decode zxm226.2.1 108 = .ok (.iconst 0, 1) := by decide +kernel
theorem zd226_109 : decode zxm226.2.1 109 = .ok (.ireturn, 1) := by decide +kernel
theorem zd226_110 : decode zxm226.2.1 110 = .ok (.iconst 1, 1) := by decide +kernel
theorem zd226_111 : decode zxm226.2.1 111 = .ok (.ireturn, 1) := by decide +kernel
theorem zd226_112 : decode zxm226.2.1 112 = .ok (.iconst 2, 1) := by decide +kernel
theorem zd226_113 : decode zxm226.2.1 113 = .ok (.ireturn, 1) := by decide +kernel
theorem zd226_114 : decode zxm226.2.1 114 = .ok (.iconst 3, 1) := by decide +kernel
theorem zd226_115 : decode zxm226.2.1 115 = .ok (.ireturn, 1) := by decide +kernel
theorem zd226_116 : decode zxm226.2.1 116 = .ok (.iconst 4, 1) := by decide +kernel
theorem zd226_117 : decode zxm226.2.1 117 = .ok (.ireturn, 1) := by decide +kernel
theorem zd226_118 : decode zxm226.2.1 118 = .ok (.iconst 5, 1) := by decide +kernel
theorem zd226_119 : decode zxm226.2.1 119 = .ok (.ireturn, 1) := by decide +kernel
theorem zd226_120 : decode zxm226.2.1 120 = .ok (.bipush 6, 2) := by decide +kernel
theorem zd226_122 : decode zxm226.2.1 122 = .ok (.ireturn, 1) := by decide +kernel
theorem zd226_123 : decode zxm226.2.1 123 = .ok (.bipush 7, 2) := by decide +kernel
theorem zd226_125 : decode zxm226.2.1 125 = .ok (.ireturn, 1) := by decide +kernel
theorem zd226_126 : decode zxm226.2.1 126 = .ok (.bipush 8, 2) := by decide +kernel
theorem zd226_128 : decode zxm226.2.1 128 = .ok (.ireturn, 1) := by decide +kernel
theorem zd226_129 : decode zxm226.2.1 129 = .ok (.bipush 9, 2) := by decide +kernel
theorem zd226_131 : decode zxm226.2.1 131 = .ok (.ireturn, 1) := by decide +kernel
theorem zd226_132 : decode zxm226.2.1 132 = .ok (.bipush 10, 2) := by decide +kernel
theorem zd226_134 : decode zxm226.2.1 134 = .ok (.ireturn, 1) := by decide +kernel
theorem zd226_135 : decode zxm226.2.1 135 = .ok (.bipush 11, 2) := by decide +kernel
theorem zd226_137 : decode zxm226.2.1 137 = .ok (.ireturn, 1) := by decide +kernel
theorem zd226_138 : decode zxm226.2.1 138 = .ok (.bipush 12, 2) := by decide +kernel
theorem zd226_140 : decode zxm226.2.1 140 = .ok (.ireturn, 1) := by decide +kernel
theorem zd226_141 : decode zxm226.2.1 141 = .ok (.iconst (-1), 1) := by decide +kernel
theorem zd226_142 : decode zxm226.2.1 142 = .ok (.ireturn, 1) := by decide +kernel
theorem zh226 {c : Int} : zn_OK z_TB z_cl z_KX zyM zxm226 (0, 0) (fun va F G => va = [.inl c]) (fun va F G r F' G' => F' = F ∧ G' = G ∧ ∃ v, r = some v ∧ -1 ≤ v ∧ v ≤ 12 ∧ (0 ≤ v → 0 ≤ c)) := zn_meth (K := zkM) (FT := z_FT) (MT := z_MT) (n := 1) zxp226 (z_ks13 _ (fun _ h => List.mem_cons_of_mem _ h) _ _ _ _ (fun j r h _ => by cases h)) (fun _ _ => zs_K_p) (by decide +kernel) (fun va F G h => by obtain ⟨rfl, _⟩ := h; rfl) rfl fun good va F G hB hret hvret hP => by
  subst hP
  refine zn_ild hB zd226_0 rfl rfl ?_
  refine zn_tsw hB zd226_1 rfl ?_
  refine ⟨fun s1 => ⟨_, rfl, ?_⟩, fun s1 => ?_⟩
  · refine zn_con hB zd226_118 rfl ?_
    exact hret _ _ _ _ _ zd226_119 trivial ⟨rfl, rfl, _, rfl, by omega, by omega, by omega⟩
  refine ⟨fun s1 => ⟨_, rfl, ?_⟩, fun s1 => ?_⟩
  · refine zn_con hB zd226_138 rfl ?_
    exact hret _ _ _ _ _ zd226_140 trivial ⟨rfl, rfl, _, rfl, by omega, by omega, by omega⟩
  refine ⟨fun s1 => ⟨_, rfl, ?_⟩, fun s1 => ?_⟩
  · refine zn_con hB zd226_129 rfl ?_
    exact hret _ _ _ _ _ zd226_131 trivial ⟨rfl, rfl, _, rfl, by omega, by omega, by omega⟩
  refine ⟨fun s1 => ⟨_, rfl, ?_⟩, fun s1 => ?_⟩
  · refine zn_con hB zd226_141 rfl ?_
    exact hret _ _ _ _ _ zd226_142 trivial ⟨rfl, rfl, _, rfl, by omega, by omega, by omega⟩
  refine ⟨fun s1 => ⟨_, rfl, ?_⟩, fun s1 => ?_⟩
  · refine zn_con hB zd226_141 rfl ?_
    exact hret _ _ _ _ _ zd226_142 trivial ⟨rfl, rfl, _, rfl, by omega, by omega, by omega⟩
  refine ⟨fun s1 => ⟨_, rfl, ?_⟩, fun s1 => ?_⟩
  · refine zn_con hB zd226_108 rfl ?_
    exact hret _ _ _ _ _ zd226_109 trivial ⟨rfl, rfl, _, rfl, by omega, by omega, by omega⟩
  refine ⟨fun s1 => ⟨_, rfl, ?_⟩, fun s1 => ?_⟩
  · refine zn_con hB zd226_112 rfl ?_
    exact hret _ _ _ _ _ zd226_113 trivial ⟨rfl, rfl, _, rfl, by omega, by omega, by omega⟩
  refine ⟨fun s1 => ⟨_, rfl, ?_⟩, fun s1 => ?_⟩
  · refine zn_con hB zd226_141 rfl ?_
    exact hret _ _ _ _ _ zd226_142 trivial ⟨rfl, rfl, _, rfl, by omega, by omega, by omega⟩
  refine ⟨fun s1 => ⟨_, rfl, ?_⟩, fun s1 => ?_⟩
  · refine zn_con hB zd226_120 rfl ?_
    exact hret _ _ _ _ _ zd226_122 trivial ⟨rfl, rfl, _, rfl, by omega, by omega, by omega⟩
  refine ⟨fun s1 => ⟨_, rfl, ?_⟩, fun s1 => ?_⟩
  · refine zn_con hB zd226_141 rfl ?_
    exact hret _ _ _ _ _ zd226_142 trivial ⟨rfl, rfl, _, rfl, by omega, by omega, by omega⟩
  refine ⟨fun s1 => ⟨_, rfl, ?_⟩, fun s1 => ?_⟩
  · refine zn_con hB zd226_114 rfl ?_
    exact hret _ _ _ _ _ zd226_115 trivial ⟨rfl, rfl, _, rfl, by omega, by omega, by omega⟩
  refine ⟨fun s1 => ⟨_, rfl, ?_⟩, fun s1 => ?_⟩
  · refine zn_con hB zd226_123 rfl ?_
    exact hret _ _ _ _ _ zd226_125 trivial ⟨rfl, rfl, _, rfl, by omega, by omega, by omega⟩
  refine ⟨fun s1 => ⟨_, rfl, ?_⟩, fun s1 => ?_⟩
  · refine zn_con hB zd226_141 rfl ?_
    exact hret _ _ _ _ _ zd226_142 trivial ⟨rfl, rfl, _, rfl, by omega, by omega, by omega⟩
  refine ⟨fun s1 => ⟨_, rfl, ?_⟩, fun s1 => ?_⟩
  · refine zn_con hB zd226_141 rfl ?_
    exact hret _ _ _ _ _ zd226_142 trivial ⟨rfl, rfl, _, rfl, by omega, by omega, by omega⟩
  refine ⟨fun s1 => ⟨_, rfl, ?_⟩, fun s1 => ?_⟩
  · refine zn_con hB zd226_141 rfl ?_
    exact hret _ _ _ _ _ zd226_142 trivial ⟨rfl, rfl, _, rfl, by omega, by omega, by omega⟩
  refine ⟨fun s1 => ⟨_, rfl, ?_⟩, fun s1 => ?_⟩
  · refine zn_con hB zd226_116 rfl ?_
    exact hret _ _ _ _ _ zd226_117 trivial ⟨rfl, rfl, _, rfl, by omega, by omega, by omega⟩
  refine ⟨fun s1 => ⟨_, rfl, ?_⟩, fun s1 => ?_⟩
  · refine zn_con hB zd226_126 rfl ?_
    exact hret _ _ _ _ _ zd226_128 trivial ⟨rfl, rfl, _, rfl, by omega, by omega, by omega⟩
  refine ⟨fun s1 => ⟨_, rfl, ?_⟩, fun s1 => ?_⟩
  · refine zn_con hB zd226_141 rfl ?_
    exact hret _ _ _ _ _ zd226_142 trivial ⟨rfl, rfl, _, rfl, by omega, by omega, by omega⟩
  refine ⟨fun s1 => ⟨_, rfl, ?_⟩, fun s1 => ?_⟩
  · refine zn_con hB zd226_110 rfl ?_
    exact hret _ _ _ _ _ zd226_111 trivial ⟨rfl, rfl, _, rfl, by omega, by omega, by omega⟩
  refine ⟨fun s1 => ⟨_, rfl, ?_⟩, fun s1 => ?_⟩
  · refine zn_con hB zd226_141 rfl ?_
    exact hret _ _ _ _ _ zd226_142 trivial ⟨rfl, rfl, _, rfl, by omega, by omega, by omega⟩
  refine ⟨fun s1 => ⟨_, rfl, ?_⟩, fun s1 => ?_⟩
  · refine zn_con hB zd226_141 rfl ?_
    exact hret _ _ _ _ _ zd226_142 trivial ⟨rfl, rfl, _, rfl, by omega, by omega, by omega⟩
  refine ⟨fun s1 => ⟨_, rfl, ?_⟩, fun s1 => ?_⟩
  · refine zn_con hB zd226_132 rfl ?_
    exact hret _ _ _ _ _ zd226_134 trivial ⟨rfl, rfl, _, rfl, by omega, by omega, by omega⟩
  refine ⟨fun s1 => ⟨_, rfl, ?_⟩, fun s1 => ?_⟩
  · refine zn_con hB zd226_135 rfl ?_
    exact hret _ _ _ _ _ zd226_137 trivial ⟨rfl, rfl, _, rfl, by omega, by omega, by omega⟩
  refine ⟨_, rfl, ?_⟩
  refine zn_con hB zd226_141 rfl ?_
  exact hret _ _ _ _ _ zd226_142 trivial ⟨rfl, rfl, _, rfl, by omega, by omega, by omega⟩
theorem zd227_0 : decode zxm227.2.1 0 = .ok (.iload_n 0, 1) := by decide +kernel
theorem zd227_1 : decode zxm227.2.1 1 = .ok (.bipush 43, 2) := by decide +kernel
theorem zd227_3 : decode zxm227.2.1 3 = .ok (.if_icmp .ne 7, 3) := by decide +kernel
theorem zd227_6 : decode zxm227.2.1 6 = .ok (.iconst 2, 1) := by decide +kernel
theorem zd227_7 : decode zxm227.2.1 7 = .ok (.goto 45, 3) := by decide +kernel
theorem zd227_10 : decode zxm227.2.1 10 = .ok (.iload_n 0, 1) := by decide +kernel
theorem zd227_11 : decode zxm227.2.1 11 = .ok (.bipush 45, 2) := by decide +kernel
theorem zd227_13 : decode zxm227.2.1 13 = .ok (.if_icmp .ne 7, 3) := by decide +kernel
theorem zd227_16 : decode zxm227.2.1 16 = .ok (.iconst 3, 1) := by decide +kernel
theorem zd227_17 : decode zxm227.2.1 17 = .ok (.goto 35, 3) := by decide +kernel
theorem zd227_20 : decode zxm227.2.1 20 = .ok (.iload_n 0, 1) := by decide +kernel
theorem zd227_21 : decode zxm227.2.1 21 = .ok (.bipush 42, 2) := by decide +kernel
theorem zd227_23 : decode zxm227.2.1 23 = .ok (.if_icmp .ne 7, 3) := by decide +kernel
theorem zd227_26 : decode zxm227.2.1 26 = .ok (.iconst 4, 1) := by decide +kernel
theorem zd227_27 : decode zxm227.2.1 27 = .ok (.goto 25, 3) := by decide +kernel
theorem zd227_30 : decode zxm227.2.1 30 = .ok (.iload_n 0, 1) := by decide +kernel
theorem zd227_31 : decode zxm227.2.1 31 = .ok (.bipush 47, 2) := by decide +kernel
theorem zd227_33 : decode zxm227.2.1 33 = .ok (.if_icmp .ne 7, 3) := by decide +kernel
theorem zd227_36 : decode zxm227.2.1 36 = .ok (.iconst 5, 1) := by decide +kernel
theorem zd227_37 : decode zxm227.2.1 37 = .ok (.goto 15, 3) := by decide +kernel
theorem zd227_40 : decode zxm227.2.1 40 = .ok (.iload_n 0, 1) := by decide +kernel
theorem zd227_41 : decode zxm227.2.1 41 = .ok (.bipush 37, 2) := by decide +kernel
theorem zd227_43 : decode zxm227.2.1 43 = .ok (.if_icmp .ne 8, 3) := by decide +kernel
theorem zd227_46 : decode zxm227.2.1 46 = .ok (.bipush 6, 2) := by decide +kernel
theorem zd227_48 : decode zxm227.2.1 48 = .ok (.goto 4, 3) := by decide +kernel
theorem zd227_51 : decode zxm227.2.1 51 = .ok (.iconst (-1), 1) := by decide +kernel
theorem zd227_52 : decode zxm227.2.1 52 = .ok (.ireturn, 1) := by decide +kernel
theorem zh227 {c : Int} : zn_OK z_TB z_cl z_KX zyM zxm227 (0, 0) (fun va F G => va = [.inl c]) (fun va F G r F' G' => F' = F ∧ G' = G ∧ ∃ v, r = some v ∧ (v = -1 ∨ 2 ≤ v ∧ v ≤ 6 ∧ 0 ≤ c)) := zn_meth (K := zkM) (FT := z_FT) (MT := z_MT) (n := 1) zxp227 (z_ks13 _ (fun _ h => List.mem_cons_of_mem _ h) _ _ _ _ (fun j r h _ => by cases h)) (fun _ _ => zs_K_p) (by decide +kernel) (fun va F G h => by obtain ⟨rfl, _⟩ := h; rfl) rfl fun good va F G hB hret hvret hP => by
  subst hP
  refine zn_ild hB zd227_0 rfl rfl ?_
  refine zn_con hB zd227_1 rfl ?_
  refine zn_cne hB zd227_3 rfl (fun h3 => ?_) (fun h3 => ?_)
  · refine zn_ild hB zd227_10 rfl rfl ?_
    refine zn_con hB zd227_11 rfl ?_
    refine zn_cne hB zd227_13 rfl (fun h13 => ?_) (fun h13 => ?_)
    · refine zn_ild hB zd227_20 rfl rfl ?_
      refine zn_con hB zd227_21 rfl ?_
      refine zn_cne hB zd227_23 rfl (fun h23 => ?_) (fun h23 => ?_)
      · refine zn_ild hB zd227_30 rfl rfl ?_
        refine zn_con hB zd227_31 rfl ?_
        refine zn_cne hB zd227_33 rfl (fun h33 => ?_) (fun h33 => ?_)
        · refine zn_ild hB zd227_40 rfl rfl ?_
          refine zn_con hB zd227_41 rfl ?_
          refine zn_cne hB zd227_43 rfl (fun h43 => ?_) (fun h43 => ?_)
          · refine zn_con hB zd227_51 rfl ?_
            exact hret _ _ _ _ _ zd227_52 trivial ⟨rfl, rfl, _, rfl, by omega⟩
          · refine zn_con hB zd227_46 rfl ?_
            refine zn_goto hB zd227_48 rfl ?_
            exact hret _ _ _ _ _ zd227_52 trivial ⟨rfl, rfl, _, rfl, by omega⟩
        · refine zn_con hB zd227_36 rfl ?_
          refine zn_goto hB zd227_37 rfl ?_
          exact hret _ _ _ _ _ zd227_52 trivial ⟨rfl, rfl, _, rfl, by omega⟩
      · refine zn_con hB zd227_26 rfl ?_
        refine zn_goto hB zd227_27 rfl ?_
        exact hret _ _ _ _ _ zd227_52 trivial ⟨rfl, rfl, _, rfl, by omega⟩
    · refine zn_con hB zd227_16 rfl ?_
      refine zn_goto hB zd227_17 rfl ?_
      exact hret _ _ _ _ _ zd227_52 trivial ⟨rfl, rfl, _, rfl, by omega⟩
  · refine zn_con hB zd227_6 rfl ?_
    refine zn_goto hB zd227_7 rfl ?_
    exact hret _ _ _ _ _ zd227_52 trivial ⟨rfl, rfl, _, rfl, by omega⟩
end
section
/-! Codes of a law as they are written: what is known of them while some jumps still wait. -/
def zp_pend (w : Int → Int) : Nat → Int
  | 0 => 0
  | i + 1 => zp_pend w i + (if (2 ≤ w i / 1048576 ∧ w i / 1048576 ≤ 6) ∨ w i / 1048576 = 10 then 1 else 0)
def zp_pn (w : Int → Int) (i : Int) : Int := zp_pend w i.toNat
theorem zp_pend_cg {w w' : Int → Int} : ∀ {i : Nat}, (∀ j : Int, 0 ≤ j → j < i → w' j = w j) → zp_pend w' i = zp_pend w i
  | 0, _ => rfl
  | i + 1, h => by
    unfold zp_pend
    rw [zp_pend_cg (i := i) (fun j h1 h2 => h j h1 (by omega)), h i (by omega) (by omega)]
theorem zp_pend_st {w : Int → Int} {b : Nat} : zp_pend w b ≤ zp_pend w (b + 1) := by
  have e2 : zp_pend w (b + 1) = zp_pend w b + (if (2 ≤ w b / 1048576 ∧ w b / 1048576 ≤ 6) ∨ w b / 1048576 = 10 then 1 else 0) := rfl
  rw [e2]
  split <;> omega
theorem zp_pend_le {w : Int → Int} {a b : Nat} (h : a ≤ b) : zp_pend w a ≤ zp_pend w b := by
  induction b with
  | zero =>
    have : a = 0 := by omega
    rw [this]; exact Int.le_refl _
  | succ b ih =>
    by_cases e : a = b + 1
    · rw [e]; exact Int.le_refl _
    · exact Int.le_trans (ih (by omega)) zp_pend_st
theorem zp_pn_cg {w w' : Int → Int} {i : Int} (h : ∀ j : Int, 0 ≤ j → j < i → w' j = w j) : zp_pn w' i = zp_pn w i := by
  unfold zp_pn
  exact zp_pend_cg fun j h1 h2 => h j h1 (by omega)
theorem zp_pn_le {w : Int → Int} {a b : Int} (h : a ≤ b) : zp_pn w a ≤ zp_pn w b := zp_pend_le (by omega)
theorem zp_pn_0 {w : Int → Int} : zp_pn w 0 = 0 := rfl
theorem zp_pn_nn {w : Int → Int} {a : Int} : 0 ≤ zp_pn w a := by
  have : zp_pend w 0 ≤ zp_pend w a.toNat := zp_pend_le (Nat.zero_le _)
  exact this
theorem zp_pn_s {w : Int → Int} {i : Int} (h : 0 ≤ i) : zp_pn w (i + 1) = zp_pn w i + (if (2 ≤ w i / 1048576 ∧ w i / 1048576 ≤ 6) ∨ w i / 1048576 = 10 then 1 else 0) := by
  unfold zp_pn
  have e : (i + 1).toNat = i.toNat + 1 := by omega
  have e2 : ((i.toNat : Nat) : Int) = i := by omega
  rw [e]
  show zp_pend w i.toNat + _ = _
  rw [e2]
theorem zp_pn_up {w : Int → Int} {i j v : Int} (h : i ≤ j) : zp_pn (zn_up w j v) i = zp_pn w i := zp_pn_cg fun k _ h2 => zn_up_n (by omega)
def zp_q (D said w : Int → Int) (cm wt k : Int) : Prop :=
  0 ≤ said k ∧ 0 ≤ D k ∧
  ((said k / 1048576 = 0 ∧ D (k + 1) ≤ D k + 1) ∨ (said k / 1048576 = 1 ∧ said k % 1048576 ≤ 12 ∧ D (k + 1) ≤ D k + 1) ∨ (2 ≤ said k / 1048576 ∧ said k / 1048576 ≤ 9 ∧ 2 ≤ D k ∧ D (k + 1) ≤ D k - 1) ∨ (said k / 1048576 = 10 ∧ 1 ≤ D k ∧ D (k + 1) ≤ D k) ∨
    ((said k / 1048576 = 11 ∨ said k / 1048576 = 12) ∧ 1 ≤ D k ∧ D (k + 1) ≤ D k - 1 ∧ ((k < said k % 1048576 ∧ said k % 1048576 ≤ cm ∧ D (said k % 1048576) ≤ D k) ∨ ∃ j, 0 ≤ j ∧ j < wt ∧ (w j / 1048576 = 11 ∨ w j / 1048576 = 12) ∧ w j % 1048576 = k)))
def zp_s (e0 : Nat) (D said w : Int → Int) (pl len cm wt d : Int) : Prop :=
  (0 ≤ cm ∧ 0 ≤ wt ∧ wt ≤ pl ∧ pl ≤ len ∧ len ≤ 200 ∧ cm + zp_pn w wt + e0 ≤ pl ∧ D cm = d ∧ 0 ≤ d) ∧ (∀ k, 0 ≤ k → k < cm → zp_q D said w cm wt k) ∧
  ∀ j, 0 ≤ j → j < wt → 0 ≤ w j ∧ (w j / 1048576 = 11 ∨ w j / 1048576 = 12 → w j % 1048576 < cm ∧ (said (w j % 1048576) / 1048576 = 11 ∨ said (w j % 1048576) / 1048576 = 12))
/-- a code is noted -/
theorem zp_note {e0 : Nat} {D said w : Int → Int} {pl len cm wt d pl2 op v d' : Int} (h : zp_s e0 D said w pl len cm wt d) (hop : 0 ≤ op ∧ op ≤ 14) (hv : 0 ≤ v ∧ v < 1048576) (hd : 0 ≤ d') (hb : cm + 1 + zp_pn w wt + e0 ≤ pl2 ∧ wt ≤ pl2 ∧ pl2 ≤ len)
    (hc : (op = 0 ∧ d' ≤ d + 1) ∨ (op = 1 ∧ v ≤ 12 ∧ d' ≤ d + 1) ∨ (2 ≤ op ∧ op ≤ 9 ∧ 2 ≤ d ∧ d' ≤ d - 1) ∨ (op = 10 ∧ 1 ≤ d ∧ d' ≤ d)) : zp_s e0 (zn_up D (cm + 1) d') (zn_up said cm (1048576 * op + v)) w pl2 len (cm + 1) wt d' := by
  obtain ⟨⟨h1, h2, h3, h4, h5, h6, h7, h8⟩, h9, h10⟩ := h
  have e1 : (1048576 * op + v) / 1048576 = op := by omega
  have e2 : (1048576 * op + v) % 1048576 = v := by omega
  refine ⟨⟨by omega, h2, hb.2.1, hb.2.2, h5, hb.1, zn_up_s, hd⟩, fun k k1 k2 => ?_, fun j j1 j2 => ?_⟩
  · by_cases e : k = cm
    · subst e
      unfold zp_q
      rw [zn_up_s, e1, e2, zn_up_s, zn_up_n (show k ≠ k + 1 by omega), h7]
      refine ⟨by omega, h8, ?_⟩
      rcases hc with hc | hc | hc | hc
      · exact Or.inl hc
      · exact Or.inr (Or.inl hc)
      · exact Or.inr (Or.inr (Or.inl hc))
      · exact Or.inr (Or.inr (Or.inr (Or.inl hc)))
    · obtain ⟨q1, q2, q3⟩ := h9 k k1 (by omega)
      unfold zp_q
      rw [zn_up_n e, zn_up_n (show k ≠ cm + 1 by omega), zn_up_n (show k + 1 ≠ cm + 1 by omega)]
      refine ⟨q1, q2, ?_⟩
      rcases q3 with q3 | q3 | q3 | q3 | ⟨q3, q4, q5, q6⟩
      · exact Or.inl q3
      · exact Or.inr (Or.inl q3)
      · exact Or.inr (Or.inr (Or.inl q3))
      · exact Or.inr (Or.inr (Or.inr (Or.inl q3)))
      · refine Or.inr (Or.inr (Or.inr (Or.inr ⟨q3, q4, q5, ?_⟩)))
        rcases q6 with ⟨q6, q7, q8⟩ | q6
        · exact Or.inl ⟨q6, by omega, by rw [zn_up_n (by omega)]; exact q8⟩
        · exact Or.inr q6
  · obtain ⟨q1, q2⟩ := h10 j j1 j2
    refine ⟨q1, fun hh => ?_⟩
    obtain ⟨q3, q4⟩ := q2 hh
    rw [zn_up_n (by omega)]
    exact ⟨by omega, q4⟩
/-- something waits that is no jump -/
theorem zp_push {e0 : Nat} {D said w : Int → Int} {pl len cm wt d pl2 x : Int} (h : zp_s e0 D said w pl len cm wt d) (hx : 0 ≤ x ∧ x / 1048576 ≠ 11 ∧ x / 1048576 ≠ 12) (hb : cm + zp_pn w wt + (if (2 ≤ x / 1048576 ∧ x / 1048576 ≤ 6) ∨ x / 1048576 = 10 then 1 else 0) + e0 ≤ pl2 ∧ wt + 1 ≤ pl2 ∧ pl2 ≤ len) : zp_s e0 D said (zn_up w wt x) pl2 len cm (wt + 1) d := by
  obtain ⟨⟨h1, h2, h3, h4, h5, h6, h7, h8⟩, h9, h10⟩ := h
  refine ⟨⟨h1, by omega, hb.2.1, hb.2.2, h5, ?_, h7, h8⟩, fun k k1 k2 => ?_, fun j j1 j2 => ?_⟩
  · rw [zp_pn_s h2, zp_pn_up (Int.le_refl _), zn_up_s]
    have := hb.1
    omega
  · obtain ⟨q1, q2, q3⟩ := h9 k k1 k2
    refine ⟨q1, q2, ?_⟩
    rcases q3 with q3 | q3 | q3 | q3 | ⟨q3, q4, q5, q6⟩
    · exact Or.inl q3
    · exact Or.inr (Or.inl q3)
    · exact Or.inr (Or.inr (Or.inl q3))
    · exact Or.inr (Or.inr (Or.inr (Or.inl q3)))
    · refine Or.inr (Or.inr (Or.inr (Or.inr ⟨q3, q4, q5, ?_⟩)))
      rcases q6 with q6 | ⟨j, j1, j2, j3, j4⟩
      · exact Or.inl q6
      · exact Or.inr ⟨j, j1, by omega, by rw [zn_up_n (by omega)]; exact j3, by rw [zn_up_n (by omega)]; exact j4⟩
  · by_cases e : j = wt
    · subst e
      rw [zn_up_s]
      exact ⟨hx.1, fun hh => absurd hh (by omega)⟩
    · rw [zn_up_n e]
      exact h10 j j1 (by omega)
/-- what waits no more, if it is no jump -/
theorem zp_pop {e0 : Nat} {D said w : Int → Int} {pl len cm wt d : Int} (h : zp_s e0 D said w pl len cm wt d) (h0 : 0 < wt) (hx : w (wt - 1) / 1048576 ≠ 11 ∧ w (wt - 1) / 1048576 ≠ 12) : zp_s e0 D said w pl len cm (wt - 1) d ∧ zp_pn w wt = zp_pn w (wt - 1) + (if (2 ≤ w (wt - 1) / 1048576 ∧ w (wt - 1) / 1048576 ≤ 6) ∨ w (wt - 1) / 1048576 = 10 then 1 else 0) := by
  obtain ⟨⟨h1, h2, h3, h4, h5, h6, h7, h8⟩, h9, h10⟩ := h
  have e := zp_pn_s (w := w) (i := wt - 1) (by omega)
  rw [show wt - 1 + 1 = wt by omega] at e
  have l := zp_pn_le (w := w) (a := wt - 1) (b := wt) (by omega)
  refine ⟨⟨⟨h1, by omega, by omega, h4, h5, by omega, h7, h8⟩, fun k k1 k2 => ?_, fun j j1 j2 => h10 j j1 (by omega)⟩, e⟩
  obtain ⟨q1, q2, q3⟩ := h9 k k1 k2
  refine ⟨q1, q2, ?_⟩
  rcases q3 with q3 | q3 | q3 | q3 | ⟨q3, q4, q5, q6⟩
  · exact Or.inl q3
  · exact Or.inr (Or.inl q3)
  · exact Or.inr (Or.inr (Or.inl q3))
  · exact Or.inr (Or.inr (Or.inr (Or.inl q3)))
  · refine Or.inr (Or.inr (Or.inr (Or.inr ⟨q3, q4, q5, ?_⟩)))
    rcases q6 with q6 | ⟨j, j1, j2, j3, j4⟩
    · exact Or.inl q6
    · by_cases e2 : j = wt - 1
      · subst e2
        exact absurd j3 (by omega)
      · exact Or.inr ⟨j, j1, by omega, j3, j4⟩
/-- a jump is noted and waits -/
theorem zp_jump {e0 : Nat} {D said w : Int → Int} {pl len cm wt d pl2 op : Int} (h : zp_s e0 D said w pl len cm wt d) (hop : op = 11 ∨ op = 12) (hd : 1 ≤ d) (hb : cm + 1 + zp_pn w wt + e0 ≤ pl2 ∧ wt + 1 ≤ pl2 ∧ pl2 ≤ len) : zp_s e0 (zn_up D (cm + 1) 0) (zn_up said cm (1048576 * op + 0)) (zn_up w wt (1048576 * op + cm)) pl2 len (cm + 1) (wt + 1) 0 := by
  obtain ⟨⟨h1, h2, h3, h4, h5, h6, h7, h8⟩, h9, h10⟩ := h
  have hn := zp_pn_nn (w := w) (a := wt)
  have e1 : (1048576 * op + 0) / 1048576 = op := by omega
  have e2 : (1048576 * op + 0) % 1048576 = 0 := by omega
  have e3 : (1048576 * op + cm) / 1048576 = op := by omega
  have e4 : (1048576 * op + cm) % 1048576 = cm := by omega
  refine ⟨⟨by omega, by omega, hb.2.1, hb.2.2, h5, ?_, zn_up_s, by omega⟩, fun k k1 k2 => ?_, fun j j1 j2 => ?_⟩
  · rw [zp_pn_s h2, zp_pn_up (Int.le_refl _), zn_up_s, e3, if_neg (by omega)]
    have := hb.1
    omega
  · by_cases e : k = cm
    · subst e
      unfold zp_q
      rw [zn_up_s, e1, e2, zn_up_s, zn_up_n (show k ≠ k + 1 by omega), h7]
      exact ⟨by omega, h8, Or.inr (Or.inr (Or.inr (Or.inr ⟨hop, hd, by omega, Or.inr ⟨wt, h2, by omega, by rw [zn_up_s, e3]; exact hop, by rw [zn_up_s, e4]⟩⟩)))⟩
    · obtain ⟨q1, q2, q3⟩ := h9 k k1 (by omega)
      unfold zp_q
      rw [zn_up_n e, zn_up_n (show k ≠ cm + 1 by omega), zn_up_n (show k + 1 ≠ cm + 1 by omega)]
      refine ⟨q1, q2, ?_⟩
      rcases q3 with q3 | q3 | q3 | q3 | ⟨q3, q4, q5, q6⟩
      · exact Or.inl q3
      · exact Or.inr (Or.inl q3)
      · exact Or.inr (Or.inr (Or.inl q3))
      · exact Or.inr (Or.inr (Or.inr (Or.inl q3)))
      · refine Or.inr (Or.inr (Or.inr (Or.inr ⟨q3, q4, q5, ?_⟩)))
        rcases q6 with ⟨q6, q7, q8⟩ | ⟨j, j1, j2, j3, j4⟩
        · exact Or.inl ⟨q6, by omega, by rw [zn_up_n (by omega)]; exact q8⟩
        · exact Or.inr ⟨j, j1, by omega, by rw [zn_up_n (by omega)]; exact j3, by rw [zn_up_n (by omega)]; exact j4⟩
  · by_cases e : j = wt
    · subst e
      rw [zn_up_s, e3, e4, zn_up_s, e1]
      exact ⟨by omega, fun _ => ⟨by omega, hop⟩⟩
    · rw [zn_up_n e]
      obtain ⟨q1, q2⟩ := h10 j j1 (by omega)
      refine ⟨q1, fun hh => ?_⟩
      obtain ⟨q3, q4⟩ := q2 hh
      rw [zn_up_n (by omega)]
      exact ⟨by omega, q4⟩
/-- a jump lands -/
theorem zp_land {e0 : Nat} {D said w : Int → Int} {pl len cm wt d : Int} (h : zp_s e0 D said w pl len cm wt d) (h0 : 0 < wt) (hx : w (wt - 1) / 1048576 = 11 ∨ w (wt - 1) / 1048576 = 12) (hd : d ≤ 1) :
    (0 ≤ w (wt - 1) % 1048576 ∧ w (wt - 1) % 1048576 < cm) ∧ 0 ≤ said (w (wt - 1) % 1048576) ∧ said (w (wt - 1) % 1048576) / 1048576 ≤ 12 ∧ zp_pn w wt = zp_pn w (wt - 1) ∧ zp_s e0 D (zn_up said (w (wt - 1) % 1048576) (1048576 * (said (w (wt - 1) % 1048576) / 1048576) + cm)) w pl len cm (wt - 1) d := by
  obtain ⟨⟨h1, h2, h3, h4, h5, h6, h7, h8⟩, h9, h10⟩ := h
  have hn := zp_pn_nn (w := w) (a := wt)
  have e := zp_pn_s (w := w) (i := wt - 1) (by omega)
  rw [show wt - 1 + 1 = wt by omega, if_neg (by omega)] at e
  obtain ⟨t1, t2⟩ := h10 (wt - 1) (by omega) (by omega)
  obtain ⟨t3, t4⟩ := t2 hx
  generalize hf : w (wt - 1) % 1048576 = f at *
  have f0 : 0 ≤ f := by omega
  obtain ⟨g1, g2, g3⟩ := h9 f f0 t3
  have gD : 1 ≤ D f ∧ D (f + 1) ≤ D f - 1 := by
    rcases g3 with g | g | g | g | g
    · exact absurd t4 (by omega)
    · exact absurd t4 (by omega)
    · exact absurd t4 (by omega)
    · exact absurd t4 (by omega)
    · exact ⟨g.2.1, g.2.2.1⟩
  have e1 : (1048576 * (said f / 1048576) + cm) / 1048576 = said f / 1048576 := by omega
  have e2 : (1048576 * (said f / 1048576) + cm) % 1048576 = cm := by omega
  refine ⟨⟨f0, t3⟩, g1, by omega, by omega, ⟨h1, by omega, by omega, h4, h5, by omega, h7, h8⟩, fun k k1 k2 => ?_, fun j j1 j2 => ?_⟩
  · by_cases ek : k = f
    · subst ek
      unfold zp_q
      rw [zn_up_s, e1, e2]
      exact ⟨by omega, g2, Or.inr (Or.inr (Or.inr (Or.inr ⟨t4, gD.1, gD.2, Or.inl ⟨t3, Int.le_refl _, by omega⟩⟩)))⟩
    · obtain ⟨q1, q2, q3⟩ := h9 k k1 k2
      unfold zp_q
      rw [zn_up_n ek]
      refine ⟨q1, q2, ?_⟩
      rcases q3 with q3 | q3 | q3 | q3 | ⟨q3, q4, q5, q6⟩
      · exact Or.inl q3
      · exact Or.inr (Or.inl q3)
      · exact Or.inr (Or.inr (Or.inl q3))
      · exact Or.inr (Or.inr (Or.inr (Or.inl q3)))
      · refine Or.inr (Or.inr (Or.inr (Or.inr ⟨q3, q4, q5, ?_⟩)))
        rcases q6 with q6 | ⟨j, j1, j2, j3, j4⟩
        · exact Or.inl q6
        · by_cases e3 : j = wt - 1
          · subst e3
            exact absurd (j4.symm.trans hf) ek
          · exact Or.inr ⟨j, j1, by omega, j3, j4⟩
  · obtain ⟨q1, q2⟩ := h10 j j1 (by omega)
    refine ⟨q1, fun hh => ?_⟩
    obtain ⟨q3, q4⟩ := q2 hh
    refine ⟨q3, ?_⟩
    by_cases e3 : w j % 1048576 = f
    · rw [e3, zn_up_s, e1]; exact t4
    · rw [zn_up_n e3]; exact q4
/-- nothing is known of the depth but that it is not below 0 -/
theorem zp_low {e0 : Nat} {D said w : Int → Int} {pl len cm wt d d' : Int} (h : zp_s e0 D said w pl len cm wt d) (h0 : 0 ≤ d') (h1 : d' ≤ d) : zp_s e0 (zn_up D cm d') said w pl len cm wt d' := by
  obtain ⟨⟨h1, h2, h3, h4, h5, h6, h7, h8⟩, h9, h10⟩ := h
  refine ⟨⟨h1, h2, h3, h4, h5, h6, zn_up_s, h0⟩, fun k k1 k2 => ?_, h10⟩
  have le : ∀ i, zn_up D cm d' i ≤ D i := by
    intro i
    by_cases e : i = cm
    · subst e; rw [zn_up_s]; omega
    · rw [zn_up_n e]; exact Int.le_refl _
  have l1 := le (k + 1)
  have l2 := le (said k % 1048576)
  obtain ⟨q1, q2, q3⟩ := h9 k k1 k2
  unfold zp_q
  rw [zn_up_n (show k ≠ cm by omega)]
  refine ⟨q1, q2, ?_⟩
  rcases q3 with q3 | q3 | q3 | q3 | ⟨q3, q4, q5, q6⟩
  · exact Or.inl ⟨q3.1, by omega⟩
  · exact Or.inr (Or.inl ⟨q3.1, q3.2.1, by omega⟩)
  · exact Or.inr (Or.inr (Or.inl ⟨q3.1, q3.2.1, q3.2.2.1, by omega⟩))
  · exact Or.inr (Or.inr (Or.inr (Or.inl ⟨q3.1, q3.2.1, by omega⟩)))
  · refine Or.inr (Or.inr (Or.inr (Or.inr ⟨q3, q4, by omega, ?_⟩)))
    rcases q6 with ⟨q6, q7, q8⟩ | q6
    · exact Or.inl ⟨q6, q7, by omega⟩
    · exact Or.inr q6
/-- nothing waits -/
theorem zp_none {e0 : Nat} {D said w w2 : Int → Int} {pl len cm d : Int} (h : zp_s e0 D said w pl len cm 0 d) : zp_s e0 D said w2 pl len cm 0 d := by
  obtain ⟨⟨h1, h2, h3, h4, h5, h6, h7, h8⟩, h9, h10⟩ := h
  refine ⟨⟨h1, h2, h3, h4, h5, h6, h7, h8⟩, fun k k1 k2 => ?_, fun j j1 j2 => absurd j1 (by omega)⟩
  obtain ⟨q1, q2, q3⟩ := h9 k k1 k2
  refine ⟨q1, q2, ?_⟩
  rcases q3 with q3 | q3 | q3 | q3 | ⟨q3, q4, q5, q6⟩
  · exact Or.inl q3
  · exact Or.inr (Or.inl q3)
  · exact Or.inr (Or.inr (Or.inl q3))
  · exact Or.inr (Or.inr (Or.inr (Or.inl q3)))
  · refine Or.inr (Or.inr (Or.inr (Or.inr ⟨q3, q4, q5, ?_⟩)))
    rcases q6 with q6 | ⟨j, j1, j2, _⟩
    · exact Or.inl q6
    · exact absurd j1 (by omega)
/-- the text goes on -/
theorem zp_on {e0 : Nat} {D said w : Int → Int} {pl len cm wt d pl2 : Int} (h : zp_s e0 D said w pl len cm wt d) (h1 : pl ≤ pl2) (h2 : pl2 ≤ len) : zp_s e0 D said w pl2 len cm wt d := by
  obtain ⟨⟨a1, a2, a3, a4, a5, a6, a7, a8⟩, h9, h10⟩ := h
  exact ⟨⟨a1, a2, by omega, h2, a5, by omega, a7, a8⟩, h9, h10⟩
end
section
/-! The reading of laws: numbers, notes, what waits. -/
theorem zp_t_pos {w : Int → Int} {wt : Int} (h : 0 ≤ zp_t w wt) : wt ≠ 0 ∧ zp_t w wt = w (wt - 1) / 1048576 := by
  unfold zp_t at h ⊢
  split at h
  · omega
  · rename_i h2; exact ⟨h2, if_neg h2⟩
theorem zp_t_ne {w : Int → Int} {wt : Int} (h : wt ≠ 0) : zp_t w wt = w (wt - 1) / 1048576 := if_neg h
/-- what is left where nothing is read -/
def zp_no (len : Int) (tape : Int → Int) (Fr : List Int) (Gr : List (Int → Int)) (F' : List Int) (G' : List (Int → Int)) : Prop :=
  ∃ pl' fl' op' cm' wt' nb' said' w', F' = pl' :: len :: fl' :: op' :: cm' :: wt' :: nb' :: Fr ∧ G' = tape :: said' :: w' :: Gr
section ZREAD1
variable {pl len fl op cm wt nb d : Int} {tape said w D : Int → Int} {Fr : List Int} {Gr : List (Int → Int)}
theorem zd236_0 : decode zxm236.2.1 0 = .ok (.aload_n 0, 1) := by decide +kernel
theorem zd236_1 : decode zxm236.2.1 1 = .ok (.invokevirtual 182, 3) := by decide +kernel
theorem zd236_4 : decode zxm236.2.1 4 = .ok (.iload_n 1, 1) := by decide +kernel
theorem zd236_5 : decode zxm236.2.1 5 = .ok (.if_icmp .eq 13, 3) := by decide +kernel
theorem zd236_8 : decode zxm236.2.1 8 = .ok (.aload_n 0, 1) := by decide +kernel
theorem zd236_9 : decode zxm236.2.1 9 = .ok (.iconst 1, 1) := by decide +kernel
theorem zd236_10 : decode zxm236.2.1 10 = .ok (.aload_n 0, 1) := by decide +kernel
theorem zd236_11 : decode zxm236.2.1 11 = .ok (.getfield 176, 3) := by decide +kernel
theorem zd236_14 : decode zxm236.2.1 14 = .ok (.invokevirtual 189, 3) := by decide +kernel
theorem zd236_17 : decode zxm236.2.1 17 = .ok (.ireturn, 1) := by decide +kernel
theorem zd236_18 : decode zxm236.2.1 18 = .ok (.aload_n 0, 1) := by decide +kernel
theorem zd236_19 : decode zxm236.2.1 19 = .ok (.aload_n 0, 1) := by decide +kernel
theorem zd236_20 : decode zxm236.2.1 20 = .ok (.getfield 176, 3) := by decide +kernel
theorem zd236_23 : decode zxm236.2.1 23 = .ok (.iconst 1, 1) := by decide +kernel
theorem zd236_24 : decode zxm236.2.1 24 = .ok (.iadd, 1) := by decide +kernel
theorem zd236_25 : decode zxm236.2.1 25 = .ok (.putfield 176, 3) := by decide +kernel
theorem zd236_28 : decode zxm236.2.1 28 = .ok (.iconst 1, 1) := by decide +kernel
theorem zd236_29 : decode zxm236.2.1 29 = .ok (.ireturn, 1) := by decide +kernel
theorem zh236 {c : Int} : zn_OK z_TB z_cl z_KX zyM zxm236 (1, 60) (fun va F G => va = [.inr 0, .inl c] ∧ F = pl :: len :: fl :: Fr ∧ G = tape :: Gr ∧ 0 ≤ pl ∧ (pl < len → pl < 220) ∧ 0 ≤ c) (fun va F G r F' G' => (r = some 0 ∧ ∃ fl', F' = pl :: len :: fl' :: Fr ∧ G' = G) ∨ (r = some 1 ∧ F' = (pl + 1) :: len :: fl :: Fr ∧ G' = G ∧ pl < len)) := zn_meth (K := zkM) (FT := z_FT) (MT := z_MT) (n := 2) zxp236 (z_ks13 _ (fun _ h => List.mem_cons_of_mem _ h) _ _ _ _ (fun j r h _ => by cases h)) (fun _ _ => zs_K_p) (by decide +kernel) (fun va F G h => by obtain ⟨rfl, _⟩ := h; rfl) rfl fun good va F G hB hret hvret hP => by
  obtain ⟨rfl, rfl, rfl, h0, h1, h2⟩ := hP
  refine zn_ald hB zd236_0 rfl rfl rfl ?_
  refine zn_iv0 hB (zh217 (pl := pl) (len := len) (tape := tape)) zd236_1 zxt217 rfl ⟨rfl, rfl, rfl, h0, h1⟩ (fun r1 F1 G1 hq1 => ?_)
  obtain ⟨rfl, rfl, rfl⟩ := hq1
  refine zn_ild hB zd236_4 rfl rfl ?_
  refine zn_ceq hB zd236_5 rfl (fun h5 => ?_) (fun h5 => ?_)
  · have hlt := zp_h_lt (tape := tape) (pl := pl) (len := len) (by omega)
    have hlt2 := h1 hlt
    refine zn_ald hB zd236_18 rfl rfl rfl ?_
    refine zn_ald hB zd236_19 rfl rfl rfl ?_
    refine zn_getf hB zd236_20 rfl rfl (fun q20 r20 => ?_)
    refine zn_con hB zd236_23 rfl ?_
    refine zn_iadd hB zd236_24 (by omega) (by omega) ?_
    refine zn_putf hB zd236_25 rfl rfl (fun h => by cases h) rfl ?_
    refine zn_con hB zd236_28 rfl ?_
    exact hret _ _ _ _ _ zd236_29 (by constructor <;> decide) (Or.inr ⟨rfl, rfl, rfl, hlt⟩)
  · refine zn_ald hB zd236_8 rfl rfl rfl ?_
    refine zn_con hB zd236_9 rfl ?_
    refine zn_ald hB zd236_10 rfl rfl rfl ?_
    refine zn_getf hB zd236_11 rfl rfl (fun q11 r11 => ?_)
    refine zn_iv2 hB zh219 zd236_14 zxt219 rfl ⟨rfl, rfl⟩ (fun r14 F14 G14 hq14 => ?_)
    obtain ⟨rfl, fl1, rfl, rfl⟩ := hq14
    exact hret _ _ _ _ _ zd236_17 (by constructor <;> decide) (Or.inl ⟨rfl, _, rfl, rfl⟩)
theorem zd225_0 : decode zxm225.2.1 0 = .ok (.aload_n 0, 1) := by decide +kernel
theorem zd225_1 : decode zxm225.2.1 1 = .ok (.getfield 23, 3) := by decide +kernel
theorem zd225_4 : decode zxm225.2.1 4 = .ok (.aload_n 0, 1) := by decide +kernel
theorem zd225_5 : decode zxm225.2.1 5 = .ok (.getfield 199, 3) := by decide +kernel
theorem zd225_8 : decode zxm225.2.1 8 = .ok (.ldc 202, 2) := by decide +kernel
theorem zd225_10 : decode zxm225.2.1 10 = .ok (.iload_n 1, 1) := by decide +kernel
theorem zd225_11 : decode zxm225.2.1 11 = .ok (.imul, 1) := by decide +kernel
theorem zd225_12 : decode zxm225.2.1 12 = .ok (.iload_n 2, 1) := by decide +kernel
theorem zd225_13 : decode zxm225.2.1 13 = .ok (.iadd, 1) := by decide +kernel
theorem zd225_14 : decode zxm225.2.1 14 = .ok (.iastore, 1) := by decide +kernel
theorem zd225_15 : decode zxm225.2.1 15 = .ok (.aload_n 0, 1) := by decide +kernel
theorem zd225_16 : decode zxm225.2.1 16 = .ok (.aload_n 0, 1) := by decide +kernel
theorem zd225_17 : decode zxm225.2.1 17 = .ok (.getfield 199, 3) := by decide +kernel
theorem zd225_20 : decode zxm225.2.1 20 = .ok (.iconst 1, 1) := by decide +kernel
theorem zd225_21 : decode zxm225.2.1 21 = .ok (.iadd, 1) := by decide +kernel
theorem zd225_22 : decode zxm225.2.1 22 = .ok (.putfield 199, 3) := by decide +kernel
theorem zd225_25 : decode zxm225.2.1 25 = .ok (.return_, 1) := by decide +kernel
theorem zh225 {o v : Int} : zn_OK z_TB z_cl z_KX zyM zxm225 (0, 0) (fun va F G => va = [.inr 0, .inl o, .inl v] ∧ F = pl :: len :: fl :: op :: cm :: Fr ∧ G = tape :: said :: Gr ∧ 0 ≤ o ∧ o ≤ 14 ∧ 0 ≤ v ∧ v < 1048576 ∧ 0 ≤ cm ∧ cm < 220) (fun va F G r F' G' => r = none ∧ F' = pl :: len :: fl :: op :: (cm + 1) :: Fr ∧ G' = tape :: zn_up said cm (1048576 * o + v) :: Gr) := zn_meth (K := zkM) (FT := z_FT) (MT := z_MT) (n := 3) zxp225 (z_ks13 _ (fun _ h => List.mem_cons_of_mem _ h) _ _ _ _ (fun j r h _ => by cases h)) (fun _ _ => zs_K_p) (by decide +kernel) (fun va F G h => by obtain ⟨rfl, _⟩ := h; rfl) rfl fun good va F G hB hret hvret hP => by
  obtain ⟨rfl, rfl, rfl, h0, h1, h2, h3, h4, h5⟩ := hP
  refine zn_ald hB zd225_0 rfl rfl rfl ?_
  refine zn_getr hB zd225_1 rfl ?_
  refine zn_ald hB zd225_4 rfl rfl rfl ?_
  refine zn_getf hB zd225_5 rfl rfl (fun q5 r5 => ?_)
  refine zn_con (n := 1048576) hB zd225_8 (by decide +kernel) ?_
  refine zn_ild hB zd225_10 rfl rfl ?_
  refine zn_imul hB zd225_11 (by omega) (by omega) ?_
  refine zn_ild hB zd225_12 rfl rfl ?_
  refine zn_iadd hB zd225_13 (by omega) (by omega) ?_
  refine zn_iast hB zd225_14 rfl rfl (by omega) (by omega) ?_
  refine zn_ald hB zd225_15 rfl rfl rfl ?_
  refine zn_ald hB zd225_16 rfl rfl rfl ?_
  refine zn_getf hB zd225_17 rfl rfl (fun q17 r17 => ?_)
  refine zn_con hB zd225_20 rfl ?_
  refine zn_iadd hB zd225_21 (by omega) (by omega) ?_
  refine zn_putf hB zd225_22 rfl rfl (fun h => by cases h) rfl ?_
  exact hvret _ _ _ _ zd225_25 trivial ⟨rfl, rfl, rfl⟩
theorem zd229_0 : decode zxm229.2.1 0 = .ok (.aload_n 0, 1) := by decide +kernel
theorem zd229_1 : decode zxm229.2.1 1 = .ok (.getfield 206, 3) := by decide +kernel
theorem zd229_4 : decode zxm229.2.1 4 = .ok (.ifCond .ne 7, 3) := by decide +kernel
theorem zd229_7 : decode zxm229.2.1 7 = .ok (.iconst (-1), 1) := by decide +kernel
theorem zd229_8 : decode zxm229.2.1 8 = .ok (.goto 17, 3) := by decide +kernel
theorem zd229_11 : decode zxm229.2.1 11 = .ok (.aload_n 0, 1) := by decide +kernel
theorem zd229_12 : decode zxm229.2.1 12 = .ok (.getfield 26, 3) := by decide +kernel
theorem zd229_15 : decode zxm229.2.1 15 = .ok (.aload_n 0, 1) := by decide +kernel
theorem zd229_16 : decode zxm229.2.1 16 = .ok (.getfield 206, 3) := by decide +kernel
theorem zd229_19 : decode zxm229.2.1 19 = .ok (.iconst 1, 1) := by decide +kernel
theorem zd229_20 : decode zxm229.2.1 20 = .ok (.isub, 1) := by decide +kernel
theorem zd229_21 : decode zxm229.2.1 21 = .ok (.iaload, 1) := by decide +kernel
theorem zd229_22 : decode zxm229.2.1 22 = .ok (.ldc 202, 2) := by decide +kernel
theorem zd229_24 : decode zxm229.2.1 24 = .ok (.idiv, 1) := by decide +kernel
theorem zd229_25 : decode zxm229.2.1 25 = .ok (.ireturn, 1) := by decide +kernel
theorem zh229  : zn_OK z_TB z_cl z_KX zyM zxm229 (0, 0) (fun va F G => va = [.inr 0] ∧ F = pl :: len :: fl :: op :: cm :: wt :: Fr ∧ G = tape :: said :: w :: Gr ∧ 0 ≤ wt ∧ wt ≤ 220 ∧ (0 < wt → 0 ≤ w (wt - 1))) (fun va F G r F' G' => F' = F ∧ G' = G ∧ r = some (zp_t w wt)) := zn_meth (K := zkM) (FT := z_FT) (MT := z_MT) (n := 1) zxp229 (z_ks13 _ (fun _ h => List.mem_cons_of_mem _ h) _ _ _ _ (fun j r h _ => by cases h)) (fun _ _ => zs_K_p) (by decide +kernel) (fun va F G h => by obtain ⟨rfl, _⟩ := h; rfl) rfl fun good va F G hB hret hvret hP => by
  obtain ⟨rfl, rfl, rfl, h0, h1, h2⟩ := hP
  refine zn_ald hB zd229_0 rfl rfl rfl ?_
  refine zn_getf hB zd229_1 rfl rfl (fun q1 r1 => ?_)
  refine zn_zne hB zd229_4 rfl (fun h4 => ?_) (fun h4 => ?_)
  · have h3 := h2 (by omega)
    refine zn_ald hB zd229_11 rfl rfl rfl ?_
    refine zn_getr hB zd229_12 rfl ?_
    refine zn_ald hB zd229_15 rfl rfl rfl ?_
    refine zn_getf hB zd229_16 rfl rfl (fun q16 r16 => ?_)
    refine zn_con hB zd229_19 rfl ?_
    refine zn_isub hB zd229_20 (by omega) (by omega) ?_
    refine zn_iald hB zd229_21 rfl rfl (by omega) (by omega) (fun q21 r21 => ?_)
    refine zn_con (n := 1048576) hB zd229_22 (by decide +kernel) ?_
    refine zn_idiv hB zd229_24 (by omega) (by omega) ?_
    exact hret _ _ _ _ _ zd229_25 trivial ⟨rfl, rfl, by first | rw [zp_t_ne h4] | (unfold zp_t; rw [if_pos h4])⟩
  · refine zn_con hB zd229_7 rfl ?_
    refine zn_goto hB zd229_8 rfl ?_
    exact hret _ _ _ _ _ zd229_25 trivial ⟨rfl, rfl, by first | rw [zp_t_ne h4] | (unfold zp_t; rw [if_pos h4])⟩
theorem zd224_0 : decode zxm224.2.1 0 = .ok (.aload_n 0, 1) := by decide +kernel
theorem zd224_1 : decode zxm224.2.1 1 = .ok (.getfield 176, 3) := by decide +kernel
theorem zd224_4 : decode zxm224.2.1 4 = .ok (.istore_n 1, 1) := by decide +kernel
theorem zd224_5 : decode zxm224.2.1 5 = .ok (.aload_n 0, 1) := by decide +kernel
theorem zd224_6 : decode zxm224.2.1 6 = .ok (.iconst 0, 1) := by decide +kernel
theorem zd224_7 : decode zxm224.2.1 7 = .ok (.putfield 192, 3) := by decide +kernel
theorem zd224_10 : decode zxm224.2.1 10 = .ok (.aload_n 0, 1) := by decide +kernel
theorem zd224_11 : decode zxm224.2.1 11 = .ok (.invokevirtual 195, 3) := by decide +kernel
theorem zd224_14 : decode zxm224.2.1 14 = .ok (.ifCond .eq 55, 3) := by decide +kernel
theorem zd224_17 : decode zxm224.2.1 17 = .ok (.aload_n 0, 1) := by decide +kernel
theorem zd224_18 : decode zxm224.2.1 18 = .ok (.getfield 176, 3) := by decide +kernel
theorem zd224_21 : decode zxm224.2.1 21 = .ok (.iload_n 1, 1) := by decide +kernel
theorem zd224_22 : decode zxm224.2.1 22 = .ok (.iconst 5, 1) := by decide +kernel
theorem zd224_23 : decode zxm224.2.1 23 = .ok (.iadd, 1) := by decide +kernel
theorem zd224_24 : decode zxm224.2.1 24 = .ok (.if_icmp .ne 13, 3) := by decide +kernel
theorem zd224_27 : decode zxm224.2.1 27 = .ok (.aload_n 0, 1) := by decide +kernel
theorem zd224_28 : decode zxm224.2.1 28 = .ok (.iconst 2, 1) := by decide +kernel
theorem zd224_29 : decode zxm224.2.1 29 = .ok (.aload_n 0, 1) := by decide +kernel
theorem zd224_30 : decode zxm224.2.1 30 = .ok (.getfield 176, 3) := by decide +kernel
theorem zd224_33 : decode zxm224.2.1 33 = .ok (.invokevirtual 189, 3) := by decide +kernel
theorem zd224_36 : decode zxm224.2.1 36 = .ok (.ireturn, 1) := by decide +kernel
theorem zd224_37 : decode zxm224.2.1 37 = .ok (.aload_n 0, 1) := by decide +kernel
theorem zd224_38 : decode zxm224.2.1 38 = .ok (.bipush 10, 2) := by decide +kernel
theorem zd224_40 : decode zxm224.2.1 40 = .ok (.aload_n 0, 1) := by decide +kernel
theorem zd224_41 : decode zxm224.2.1 41 = .ok (.getfield 192, 3) := by decide +kernel
theorem zd224_44 : decode zxm224.2.1 44 = .ok (.imul, 1) := by decide +kernel
theorem zd224_45 : decode zxm224.2.1 45 = .ok (.aload_n 0, 1) := by decide +kernel
theorem zd224_46 : decode zxm224.2.1 46 = .ok (.invokevirtual 182, 3) := by decide +kernel
theorem zd224_49 : decode zxm224.2.1 49 = .ok (.iadd, 1) := by decide +kernel
theorem zd224_50 : decode zxm224.2.1 50 = .ok (.bipush 48, 2) := by decide +kernel
theorem zd224_52 : decode zxm224.2.1 52 = .ok (.isub, 1) := by decide +kernel
theorem zd224_53 : decode zxm224.2.1 53 = .ok (.putfield 192, 3) := by decide +kernel
theorem zd224_56 : decode zxm224.2.1 56 = .ok (.aload_n 0, 1) := by decide +kernel
theorem zd224_57 : decode zxm224.2.1 57 = .ok (.aload_n 0, 1) := by decide +kernel
theorem zd224_58 : decode zxm224.2.1 58 = .ok (.getfield 176, 3) := by decide +kernel
theorem zd224_61 : decode zxm224.2.1 61 = .ok (.iconst 1, 1) := by decide +kernel
theorem zd224_62 : decode zxm224.2.1 62 = .ok (.iadd, 1) := by decide +kernel
theorem zd224_63 : decode zxm224.2.1 63 = .ok (.putfield 176, 3) := by decide +kernel
theorem zd224_66 : decode zxm224.2.1 66 = .ok (.goto (-56), 3) := by decide +kernel
theorem zd224_69 : decode zxm224.2.1 69 = .ok (.iconst 1, 1) := by decide +kernel
theorem zd224_70 : decode zxm224.2.1 70 = .ok (.ireturn, 1) := by decide +kernel
theorem zh224  : zn_OK z_TB z_cl z_KX zyM zxm224 (2, 120) (fun va F G => va = [.inr 0] ∧ F = pl :: len :: fl :: op :: cm :: wt :: nb :: Fr ∧ G = tape :: Gr ∧ 0 ≤ pl ∧ pl ≤ 200 ∧ len ≤ 200 ∧ 48 ≤ zp_h tape pl len ∧ zp_h tape pl len ≤ 57) (fun va F G r F' G' => (r = some 0 ∧ ∃ p1 fl' n1, F' = p1 :: len :: fl' :: op :: cm :: wt :: n1 :: Fr ∧ G' = G) ∨ (r = some 1 ∧ ∃ p1 n1, F' = p1 :: len :: fl :: op :: cm :: wt :: n1 :: Fr ∧ G' = G ∧ pl < p1 ∧ p1 ≤ len ∧ 0 ≤ n1 ∧ n1 ≤ 99999)) := zn_meth (K := zkM) (FT := z_FT) (MT := z_MT) (n := 1) zxp224 (z_ks13 _ (fun _ h => List.mem_cons_of_mem _ h) _ _ _ _ (fun j r h _ => by cases h)) (fun _ _ => zs_K_p) (by decide +kernel) (fun va F G h => by obtain ⟨rfl, _⟩ := h; rfl) rfl fun good va F G hB hret hvret hP => by
  obtain ⟨rfl, rfl, rfl, h0, h1, h2, h4, h5⟩ := hP
  have key : ∀ (n : Nat) (p1 n1 : Int), len - p1 < n → pl ≤ p1 → p1 ≤ len ∨ p1 = pl → 0 ≤ n1 → (p1 = pl ∧ n1 = 0) ∨ (p1 = pl + 1 ∧ n1 ≤ 9) ∨ (p1 = pl + 2 ∧ n1 ≤ 99) ∨ (p1 = pl + 3 ∧ n1 ≤ 999) ∨ (p1 = pl + 4 ∧ n1 ≤ 9999) ∨ (p1 = pl + 5 ∧ n1 ≤ 99999) → (p1 = pl → 48 ≤ zp_h tape pl len ∧ zp_h tape pl len ≤ 57) → good 10 [.inr 0, .inl pl] [] (p1 :: len :: fl :: op :: cm :: wt :: n1 :: Fr) (tape :: Gr) := by
    intro n
    induction n with
    | zero =>
      intro p1 n1 a1 a2 a3 a4 a5 a6
      exfalso
      rcases a3 with a3 | a3
      · omega
      · have := zp_h_lt (tape := tape) (pl := pl) (len := len) (by have := a6 a3; omega)
        omega
    | succ n ih =>
      intro p1 n1 a1 a2 a3 a4 a5 a6
      refine zn_ald hB zd224_10 rfl rfl rfl ?_
      refine zn_iv0 hB (zh223 (pl := p1) (len := len) (tape := tape)) zd224_11 zxt223 rfl ⟨rfl, rfl, rfl, by omega, by omega⟩ (fun r11 F11 G11 hq11 => ?_)
      obtain ⟨rfl, rfl, hd⟩ := hq11
      rcases hd with ⟨rfl, g1, g2⟩ | ⟨rfl, g1⟩
      · refine zn_zeq hB zd224_14 rfl (fun h14 => ?_) (fun h14 => ?_)
        · exfalso; omega
        · have hlt := zp_h_lt (tape := tape) (pl := p1) (len := len) (by omega)
          refine zn_ald hB zd224_17 rfl rfl rfl ?_
          refine zn_getf hB zd224_18 rfl rfl (fun q18 r18 => ?_)
          refine zn_ild hB zd224_21 rfl rfl ?_
          refine zn_con hB zd224_22 rfl ?_
          refine zn_iadd hB zd224_23 (by omega) (by omega) ?_
          refine zn_cne hB zd224_24 rfl (fun h24 => ?_) (fun h24 => ?_)
          · refine zn_ald hB zd224_37 rfl rfl rfl ?_
            refine zn_con hB zd224_38 rfl ?_
            refine zn_ald hB zd224_40 rfl rfl rfl ?_
            refine zn_getf hB zd224_41 rfl rfl (fun q41 r41 => ?_)
            refine zn_imul hB zd224_44 (by omega) (by omega) ?_
            refine zn_ald hB zd224_45 rfl rfl rfl ?_
            refine zn_iv0 hB (zh217 (pl := p1) (len := len) (tape := tape)) zd224_46 zxt217 rfl ⟨rfl, rfl, rfl, by omega, by omega⟩ (fun r46 F46 G46 hq46 => ?_)
            obtain ⟨rfl, rfl, rfl⟩ := hq46
            refine zn_iadd hB zd224_49 (by omega) (by omega) ?_
            refine zn_con hB zd224_50 rfl ?_
            refine zn_isub hB zd224_52 (by omega) (by omega) ?_
            refine zn_putf hB zd224_53 rfl rfl (fun h => by cases h) rfl ?_
            refine zn_ald hB zd224_56 rfl rfl rfl ?_
            refine zn_ald hB zd224_57 rfl rfl rfl ?_
            refine zn_getf hB zd224_58 rfl rfl (fun q58 r58 => ?_)
            refine zn_con hB zd224_61 rfl ?_
            refine zn_iadd hB zd224_62 (by omega) (by omega) ?_
            refine zn_putf hB zd224_63 rfl rfl (fun h => by cases h) rfl ?_
            refine zn_goto hB zd224_66 rfl ?_
            exact ih (p1 + 1) (10 * n1 + zp_h tape p1 len - 48) (by omega) (by omega) (Or.inl (by omega)) (by omega) (by omega) (fun h => by omega)
          · refine zn_ald hB zd224_27 rfl rfl rfl ?_
            refine zn_con hB zd224_28 rfl ?_
            refine zn_ald hB zd224_29 rfl rfl rfl ?_
            refine zn_getf hB zd224_30 rfl rfl (fun q30 r30 => ?_)
            refine zn_iv2 hB zh219 zd224_33 zxt219 rfl ⟨rfl, rfl⟩ (fun r33 F33 G33 hq33 => ?_)
            obtain ⟨rfl, fl1, rfl, rfl⟩ := hq33
            exact hret _ _ _ _ _ zd224_36 (by constructor <;> decide) (Or.inl ⟨rfl, _, _, _, rfl, rfl⟩)
      · refine zn_zeq hB zd224_14 rfl (fun h14 => ?_) (fun h14 => ?_)
        · have hne : p1 ≠ pl := fun h => by subst h; have := a6 rfl; omega
          refine zn_con hB zd224_69 rfl ?_
          exact hret _ _ _ _ _ zd224_70 (by constructor <;> decide) (Or.inr ⟨rfl, p1, n1, rfl, rfl, by omega, by omega, by omega, by omega⟩)
        · exfalso; omega
  refine zn_ald hB zd224_0 rfl rfl rfl ?_
  refine zn_getf hB zd224_1 rfl rfl (fun q1 r1 => ?_)
  refine zn_ist hB zd224_4 rfl rfl rfl ?_
  refine zn_ald hB zd224_5 rfl rfl rfl ?_
  refine zn_con hB zd224_6 rfl ?_
  refine zn_putf hB zd224_7 rfl rfl (fun h => by cases h) rfl ?_
  exact key ((len - pl).toNat + 1) pl 0 (by omega) (by omega) (Or.inr rfl) (by omega) (by omega) (fun _ => ⟨h4, h5⟩)
theorem zd222_0 : decode zxm222.2.1 0 = .ok (.aload_n 0, 1) := by decide +kernel
theorem zd222_1 : decode zxm222.2.1 1 = .ok (.getfield 203, 3) := by decide +kernel
theorem zd222_4 : decode zxm222.2.1 4 = .ok (.bipush 6, 2) := by decide +kernel
theorem zd222_6 : decode zxm222.2.1 6 = .ok (.if_icmp .ne 13, 3) := by decide +kernel
theorem zd222_9 : decode zxm222.2.1 9 = .ok (.aload_n 0, 1) := by decide +kernel
theorem zd222_10 : decode zxm222.2.1 10 = .ok (.iconst 5, 1) := by decide +kernel
theorem zd222_11 : decode zxm222.2.1 11 = .ok (.aload_n 0, 1) := by decide +kernel
theorem zd222_12 : decode zxm222.2.1 12 = .ok (.getfield 176, 3) := by decide +kernel
theorem zd222_15 : decode zxm222.2.1 15 = .ok (.invokevirtual 189, 3) := by decide +kernel
theorem zd222_18 : decode zxm222.2.1 18 = .ok (.ireturn, 1) := by decide +kernel
theorem zd222_19 : decode zxm222.2.1 19 = .ok (.aload_n 0, 1) := by decide +kernel
theorem zd222_20 : decode zxm222.2.1 20 = .ok (.aload_n 0, 1) := by decide +kernel
theorem zd222_21 : decode zxm222.2.1 21 = .ok (.getfield 203, 3) := by decide +kernel
theorem zd222_24 : decode zxm222.2.1 24 = .ok (.iconst 1, 1) := by decide +kernel
theorem zd222_25 : decode zxm222.2.1 25 = .ok (.iadd, 1) := by decide +kernel
theorem zd222_26 : decode zxm222.2.1 26 = .ok (.putfield 203, 3) := by decide +kernel
theorem zd222_29 : decode zxm222.2.1 29 = .ok (.aload_n 0, 1) := by decide +kernel
theorem zd222_30 : decode zxm222.2.1 30 = .ok (.getfield 26, 3) := by decide +kernel
theorem zd222_33 : decode zxm222.2.1 33 = .ok (.aload_n 0, 1) := by decide +kernel
theorem zd222_34 : decode zxm222.2.1 34 = .ok (.getfield 206, 3) := by decide +kernel
theorem zd222_37 : decode zxm222.2.1 37 = .ok (.ldc 202, 2) := by decide +kernel
theorem zd222_39 : decode zxm222.2.1 39 = .ok (.iload_n 1, 1) := by decide +kernel
theorem zd222_40 : decode zxm222.2.1 40 = .ok (.imul, 1) := by decide +kernel
theorem zd222_41 : decode zxm222.2.1 41 = .ok (.iastore, 1) := by decide +kernel
theorem zd222_42 : decode zxm222.2.1 42 = .ok (.aload_n 0, 1) := by decide +kernel
theorem zd222_43 : decode zxm222.2.1 43 = .ok (.aload_n 0, 1) := by decide +kernel
theorem zd222_44 : decode zxm222.2.1 44 = .ok (.getfield 206, 3) := by decide +kernel
theorem zd222_47 : decode zxm222.2.1 47 = .ok (.iconst 1, 1) := by decide +kernel
theorem zd222_48 : decode zxm222.2.1 48 = .ok (.iadd, 1) := by decide +kernel
theorem zd222_49 : decode zxm222.2.1 49 = .ok (.putfield 206, 3) := by decide +kernel
theorem zd222_52 : decode zxm222.2.1 52 = .ok (.aload_n 0, 1) := by decide +kernel
theorem zd222_53 : decode zxm222.2.1 53 = .ok (.aload_n 0, 1) := by decide +kernel
theorem zd222_54 : decode zxm222.2.1 54 = .ok (.getfield 176, 3) := by decide +kernel
theorem zd222_57 : decode zxm222.2.1 57 = .ok (.iconst 1, 1) := by decide +kernel
theorem zd222_58 : decode zxm222.2.1 58 = .ok (.iadd, 1) := by decide +kernel
theorem zd222_59 : decode zxm222.2.1 59 = .ok (.putfield 176, 3) := by decide +kernel
theorem zd222_62 : decode zxm222.2.1 62 = .ok (.iconst 1, 1) := by decide +kernel
theorem zd222_63 : decode zxm222.2.1 63 = .ok (.ireturn, 1) := by decide +kernel
theorem zh222 {o : Int} : zn_OK z_TB z_cl z_KX zyM zxm222 (1, 60) (fun va F G => va = [.inr 0, .inl o] ∧ F = pl :: len :: fl :: op :: cm :: wt :: Fr ∧ G = tape :: said :: w :: Gr ∧ 0 ≤ o ∧ o ≤ 14 ∧ 0 ≤ wt ∧ wt < 220 ∧ 0 ≤ pl ∧ pl ≤ 220) (fun va F G r F' G' => (r = some 0 ∧ ∃ fl', F' = pl :: len :: fl' :: op :: cm :: wt :: Fr ∧ G' = G) ∨ (r = some 1 ∧ ∃ op', F' = (pl + 1) :: len :: fl :: op' :: cm :: (wt + 1) :: Fr ∧ G' = tape :: said :: zn_up w wt (1048576 * o) :: Gr)) := zn_meth (K := zkM) (FT := z_FT) (MT := z_MT) (n := 2) zxp222 (z_ks13 _ (fun _ h => List.mem_cons_of_mem _ h) _ _ _ _ (fun j r h _ => by cases h)) (fun _ _ => zs_K_p) (by decide +kernel) (fun va F G h => by obtain ⟨rfl, _⟩ := h; rfl) rfl fun good va F G hB hret hvret hP => by
  obtain ⟨rfl, rfl, rfl, h0, h1, h2, h3, h7, h8⟩ := hP
  refine zn_ald hB zd222_0 rfl rfl rfl ?_
  refine zn_getf hB zd222_1 rfl rfl (fun q1 r1 => ?_)
  refine zn_con hB zd222_4 rfl ?_
  refine zn_cne hB zd222_6 rfl (fun h6 => ?_) (fun h6 => ?_)
  · refine zn_ald hB zd222_19 rfl rfl rfl ?_
    refine zn_ald hB zd222_20 rfl rfl rfl ?_
    refine zn_getf hB zd222_21 rfl rfl (fun q21 r21 => ?_)
    refine zn_con hB zd222_24 rfl ?_
    refine zn_any hB zd222_25 rfl (fun v25 q25 r25 => ?_)
    refine zn_putf hB zd222_26 rfl rfl (fun h => by cases h) rfl ?_
    refine zn_ald hB zd222_29 rfl rfl rfl ?_
    refine zn_getr hB zd222_30 rfl ?_
    refine zn_ald hB zd222_33 rfl rfl rfl ?_
    refine zn_getf hB zd222_34 rfl rfl (fun q34 r34 => ?_)
    refine zn_con (n := 1048576) hB zd222_37 (by decide +kernel) ?_
    refine zn_ild hB zd222_39 rfl rfl ?_
    refine zn_imul hB zd222_40 (by omega) (by omega) ?_
    refine zn_iast hB zd222_41 rfl rfl (by omega) (by omega) ?_
    refine zn_ald hB zd222_42 rfl rfl rfl ?_
    refine zn_ald hB zd222_43 rfl rfl rfl ?_
    refine zn_getf hB zd222_44 rfl rfl (fun q44 r44 => ?_)
    refine zn_con hB zd222_47 rfl ?_
    refine zn_iadd hB zd222_48 (by omega) (by omega) ?_
    refine zn_putf hB zd222_49 rfl rfl (fun h => by cases h) rfl ?_
    refine zn_ald hB zd222_52 rfl rfl rfl ?_
    refine zn_ald hB zd222_53 rfl rfl rfl ?_
    refine zn_getf hB zd222_54 rfl rfl (fun q54 r54 => ?_)
    refine zn_con hB zd222_57 rfl ?_
    refine zn_iadd hB zd222_58 (by omega) (by omega) ?_
    refine zn_putf hB zd222_59 rfl rfl (fun h => by cases h) rfl ?_
    refine zn_con hB zd222_62 rfl ?_
    exact hret _ _ _ _ _ zd222_63 (by constructor <;> decide) (Or.inr ⟨rfl, _, rfl, rfl⟩)
  · refine zn_ald hB zd222_9 rfl rfl rfl ?_
    refine zn_con hB zd222_10 rfl ?_
    refine zn_ald hB zd222_11 rfl rfl rfl ?_
    refine zn_getf hB zd222_12 rfl rfl (fun q12 r12 => ?_)
    refine zn_iv2 hB zh219 zd222_15 zxt219 rfl ⟨rfl, rfl⟩ (fun r15 F15 G15 hq15 => ?_)
    obtain ⟨rfl, fl1, rfl, rfl⟩ := hq15
    exact hret _ _ _ _ _ zd222_18 (by constructor <;> decide) (Or.inl ⟨rfl, _, rfl, rfl⟩)
theorem zd230_0 : decode zxm230.2.1 0 = .ok (.iload_n 1, 1) := by decide +kernel
theorem zd230_1 : decode zxm230.2.1 1 = .ok (.istore_n 2, 1) := by decide +kernel
theorem zd230_2 : decode zxm230.2.1 2 = .ok (.iload_n 2, 1) := by decide +kernel
theorem zd230_3 : decode zxm230.2.1 3 = .ok (.aload_n 0, 1) := by decide +kernel
theorem zd230_4 : decode zxm230.2.1 4 = .ok (.getfield 206, 3) := by decide +kernel
theorem zd230_7 : decode zxm230.2.1 7 = .ok (.if_icmp .ge 25, 3) := by decide +kernel
theorem zd230_10 : decode zxm230.2.1 10 = .ok (.aload_n 0, 1) := by decide +kernel
theorem zd230_11 : decode zxm230.2.1 11 = .ok (.getfield 26, 3) := by decide +kernel
theorem zd230_14 : decode zxm230.2.1 14 = .ok (.iload_n 2, 1) := by decide +kernel
theorem zd230_15 : decode zxm230.2.1 15 = .ok (.iaload, 1) := by decide +kernel
theorem zd230_16 : decode zxm230.2.1 16 = .ok (.ldc 202, 2) := by decide +kernel
theorem zd230_18 : decode zxm230.2.1 18 = .ok (.idiv, 1) := by decide +kernel
theorem zd230_19 : decode zxm230.2.1 19 = .ok (.bipush 14, 2) := by decide +kernel
theorem zd230_21 : decode zxm230.2.1 21 = .ok (.if_icmp .ne 5, 3) := by decide +kernel
theorem zd230_24 : decode zxm230.2.1 24 = .ok (.iconst 1, 1) := by decide +kernel
theorem zd230_25 : decode zxm230.2.1 25 = .ok (.ireturn, 1) := by decide +kernel
theorem zd230_26 : decode zxm230.2.1 26 = .ok (.iinc 2 1, 3) := by decide +kernel
theorem zd230_29 : decode zxm230.2.1 29 = .ok (.goto (-27), 3) := by decide +kernel
theorem zd230_32 : decode zxm230.2.1 32 = .ok (.iconst 0, 1) := by decide +kernel
theorem zd230_33 : decode zxm230.2.1 33 = .ok (.ireturn, 1) := by decide +kernel
theorem zh230 {base : Int} : zn_OK z_TB z_cl z_KX zyM zxm230 (0, 0) (fun va F G => va = [.inr 0, .inl base] ∧ F = pl :: len :: fl :: op :: cm :: wt :: Fr ∧ G = tape :: said :: w :: Gr ∧ 0 ≤ base ∧ wt ≤ 220 ∧ ∀ j, base ≤ j → j < wt → 0 ≤ w j) (fun va F G r F' G' => F' = F ∧ G' = G ∧ ((r = some 1 ∧ ∃ j, base ≤ j ∧ j < wt ∧ w j / 1048576 = 14) ∨ (r = some 0 ∧ ∀ j, base ≤ j → j < wt → w j / 1048576 ≠ 14))) := zn_meth (K := zkM) (FT := z_FT) (MT := z_MT) (n := 2) zxp230 (z_ks13 _ (fun _ h => List.mem_cons_of_mem _ h) _ _ _ _ (fun j r h _ => by cases h)) (fun _ _ => zs_K_p) (by decide +kernel) (fun va F G h => by obtain ⟨rfl, _⟩ := h; rfl) rfl fun good va F G hB hret hvret hP => by
  obtain ⟨rfl, rfl, rfl, h0, h1, h2⟩ := hP
  have key : ∀ (n : Nat) (k : Int) (x : zNV), wt - k < n → base ≤ k → (∀ j, base ≤ j → j < k → w j / 1048576 ≠ 14) → good 2 [.inr 0, .inl base, .inl k] [] (pl :: len :: fl :: op :: cm :: wt :: Fr) (tape :: said :: w :: Gr) := by
    intro n
    induction n with
    | zero =>
      intro k x a1 a2 a3
      refine zn_ild hB zd230_2 rfl rfl ?_
      refine zn_ald hB zd230_3 rfl rfl rfl ?_
      refine zn_getf hB zd230_4 rfl rfl (fun q4 r4 => ?_)
      refine zn_cge hB zd230_7 rfl (fun h7 => ?_) (fun h7 => ?_)
      · refine zn_con hB zd230_32 rfl ?_
        refine hret _ _ _ _ _ zd230_33 (by constructor <;> decide) ⟨rfl, rfl, Or.inr ⟨rfl, fun j j1 j2 => ?_⟩⟩
        exact a3 j j1 (by omega)
      · exfalso; omega
    | succ n ih =>
      intro k x a1 a2 a3
      refine zn_ild hB zd230_2 rfl rfl ?_
      refine zn_ald hB zd230_3 rfl rfl rfl ?_
      refine zn_getf hB zd230_4 rfl rfl (fun q4 r4 => ?_)
      refine zn_cge hB zd230_7 rfl (fun h7 => ?_) (fun h7 => ?_)
      · refine zn_con hB zd230_32 rfl ?_
        refine hret _ _ _ _ _ zd230_33 (by constructor <;> decide) ⟨rfl, rfl, Or.inr ⟨rfl, fun j j1 j2 => ?_⟩⟩
        exact a3 j j1 (by omega)
      · have hk := h2 k (by omega) (by omega)
        refine zn_ald hB zd230_10 rfl rfl rfl ?_
        refine zn_getr hB zd230_11 rfl ?_
        refine zn_ild hB zd230_14 rfl rfl ?_
        refine zn_iald hB zd230_15 rfl rfl (by omega) (by omega) (fun q15 r15 => ?_)
        refine zn_con (n := 1048576) hB zd230_16 (by decide +kernel) ?_
        refine zn_idiv hB zd230_18 (by omega) (by omega) ?_
        refine zn_con hB zd230_19 rfl ?_
        refine zn_cne hB zd230_21 rfl (fun h21 => ?_) (fun h21 => ?_)
        · refine zn_iinc hB zd230_26 rfl rfl (by omega) (by omega) ?_
          refine zn_goto hB zd230_29 rfl ?_
          refine ih (k + 1) x (by omega) (by omega) (fun j j1 j2 => ?_)
          by_cases e : j = k
          · rw [e]; exact h21
          · exact a3 j j1 (by omega)
        · refine zn_con hB zd230_24 rfl ?_
          exact hret _ _ _ _ _ zd230_25 (by constructor <;> decide) ⟨rfl, rfl, Or.inl ⟨rfl, k, by omega, by omega, h21⟩⟩
  refine zn_ild hB zd230_0 rfl rfl ?_
  refine zn_ist hB zd230_1 rfl rfl rfl ?_
  exact key ((wt - base).toNat + 1) base (.inl 0) (by omega) (by omega) (fun j j1 j2 => by omega)
end ZREAD1
end
section
/-! The reading of laws: sums. -/
/-- signs that wait are noted, from the top on -/
def zp_cs (e0 : Nat) (D w : Int → Int) (len cm wt d : Int) (D' said' : Int → Int) (pl cm' wt' d' : Int) : Prop :=
  zp_s e0 D' said' w pl len cm' wt' d' ∧ (∀ k, k ≤ cm → D' k = D k) ∧ wt' ≤ wt ∧ d' = d - (wt - wt') ∧ cm ≤ cm' ∧ (∀ i, wt' ≤ i → i < wt → 2 ≤ w i / 1048576 ∧ w i / 1048576 ≤ 6) ∧ zp_pn w wt = zp_pn w wt' + (wt - wt') ∧ cm' + wt' = cm + wt
theorem zp_cs_rf {e0 : Nat} {D said w : Int → Int} {pl len cm wt d : Int} (h : zp_s e0 D said w pl len cm wt d) : zp_cs e0 D w len cm wt d D said pl cm wt d :=
  ⟨h, fun _ _ => rfl, Int.le_refl _, by omega, Int.le_refl _, fun i h1 h2 => absurd h1 (by omega), by omega, rfl⟩
theorem zp_cs_st {e0 : Nat} {D said w D' said' : Int → Int} {pl len cm wt d cm' wt' d' o : Int} (h : zp_s e0 D said w pl len cm wt d) (h0 : 0 < wt) (ho : o = w (wt - 1) / 1048576) (h1 : 2 ≤ o ∧ o ≤ 6) (h2 : 2 ≤ d) :
    zp_s e0 (zn_up D (cm + 1) (d - 1)) (zn_up said cm (1048576 * o + 0)) w pl len (cm + 1) (wt - 1) (d - 1) ∧ (zp_cs e0 (zn_up D (cm + 1) (d - 1)) w len (cm + 1) (wt - 1) (d - 1) D' said' pl cm' wt' d' → zp_cs e0 D w len cm wt d D' said' pl cm' wt' d') := by
  obtain ⟨g1, g2⟩ := zp_pop h h0 (by omega)
  rw [if_pos (by omega)] at g2
  have hb := h.1
  refine ⟨zp_note g1 (by omega) (by omega) (by omega) (by omega) (Or.inr (Or.inr (Or.inl (by omega)))), fun ⟨a1, a2, a3, a4, a5, a6, a7, a8⟩ => ⟨a1, fun k hk => ?_, by omega, by omega, by omega, fun i i1 i2 => ?_, by omega, by omega⟩⟩
  · rw [a2 k (by omega), zn_up_n (by omega)]
  · by_cases e : i = wt - 1
    · subst e; omega
    · exact a6 i i1 (by omega)
/-- all signs at the top -/
def zp_run (w : Int → Int) (wt d : Int) : Prop := ∀ j, 0 ≤ j → j ≤ wt → (∀ i, j ≤ i → i < wt → 2 ≤ w i / 1048576 ∧ w i / 1048576 ≤ 6) → wt - j + 1 ≤ d
theorem zp_run_st {w : Int → Int} {wt d : Int} (h : zp_run w wt d) (h0 : 0 < wt) (h1 : 2 ≤ w (wt - 1) / 1048576 ∧ w (wt - 1) / 1048576 ≤ 6) : 2 ≤ d ∧ zp_run w (wt - 1) (d - 1) := by
  have ext : ∀ j, (∀ i, j ≤ i → i < wt - 1 → 2 ≤ w i / 1048576 ∧ w i / 1048576 ≤ 6) → ∀ i, j ≤ i → i < wt → 2 ≤ w i / 1048576 ∧ w i / 1048576 ≤ 6 := by
    intro j hj i i1 i2
    by_cases e : i = wt - 1
    · rw [e]; exact h1
    · exact hj i i1 (by omega)
  refine ⟨?_, fun j j1 j2 j3 => ?_⟩
  · have := h (wt - 1) (by omega) (by omega) (ext _ (fun i i1 i2 => by omega))
    omega
  · have := h j j1 (by omega) (ext j j3)
    omega
/-- a factor: what comes to be -/
def zp_f (D w : Int → Int) (pl cm wt : Int) (D' w' : Int → Int) (pl' cm' wt' : Int) : Prop :=
  (∀ k, k ≤ cm → D' k = D k) ∧ cm ≤ cm' ∧ wt ≤ wt' ∧ (∀ j, j < wt → w' j = w j) ∧ (∀ j, wt ≤ j → j < wt' → w' j / 1048576 = 14) ∧ zp_pn w' wt' = zp_pn w wt ∧ pl ≤ pl'
theorem zp_f_rf {D w : Int → Int} {pl cm wt : Int} : zp_f D w pl cm wt D w pl cm wt := ⟨fun _ _ => rfl, Int.le_refl _, Int.le_refl _, fun _ _ => rfl, fun j h1 h2 => absurd h1 (by omega), rfl, Int.le_refl _⟩
theorem zp_f_open {D w D' w' : Int → Int} {pl cm wt pl' cm' wt' : Int} (h0 : 0 ≤ wt) (h : zp_f D (zn_up w wt (1048576 * 14)) (pl + 1) cm (wt + 1) D' w' pl' cm' wt') : zp_f D w pl cm wt D' w' pl' cm' wt' := by
  obtain ⟨a1, a2, a3, a4, a5, a6, a7⟩ := h
  refine ⟨a1, a2, by omega, fun j hj => ?_, fun j j1 j2 => ?_, ?_, by omega⟩
  · rw [a4 j (by omega), zn_up_n (by omega)]
  · by_cases e : j = wt
    · subst e; rw [a4 j (by omega), zn_up_s]; omega
    · exact a5 j (by omega) j2
  · rw [a6, zp_pn_s h0, zp_pn_up (Int.le_refl _), zn_up_s, if_neg (by omega)]; omega
theorem zp_f_note {D w : Int → Int} {pl cm wt v pl' : Int} (h : pl ≤ pl') : zp_f D w pl cm wt (zn_up D (cm + 1) v) w pl' (cm + 1) wt :=
  ⟨fun k hk => zn_up_n (by omega), by omega, Int.le_refl _, fun _ _ => rfl, fun j h1 h2 => absurd h1 (by omega), rfl, h⟩
/-- a sum on its way -/
def zp_b (D w : Int → Int) (pl cm wt d : Int) (D1 w1 : Int → Int) (pl1 cm1 wt1 d1 : Int) : Prop :=
  (∀ k, k ≤ cm → D1 k = D k) ∧ cm ≤ cm1 ∧ wt ≤ wt1 ∧ (∀ j, j < wt → w1 j = w j) ∧ (∀ j, wt ≤ j → j < wt1 → (2 ≤ w1 j / 1048576 ∧ w1 j / 1048576 ≤ 6) ∨ w1 j / 1048576 = 14) ∧ d1 = d + 1 + (zp_pn w1 wt1 - zp_pn w wt) ∧ pl < pl1
def zp_low0 (w : Int → Int) (wt : Int) : Prop := wt = 0 ∨ ¬ (2 ≤ w (wt - 1) / 1048576 ∧ w (wt - 1) / 1048576 ≤ 6)
theorem zp_b_base {D w D1 w1 : Int → Int} {pl cm wt d pl1 cm1 wt1 d1 j : Int} (h : zp_b D w pl cm wt d D1 w1 pl1 cm1 wt1 d1) (hl : zp_low0 w wt) (h0 : 0 ≤ j) (hj : ∀ i, j ≤ i → i < wt1 → 2 ≤ w1 i / 1048576 ∧ w1 i / 1048576 ≤ 6) : wt ≤ j := by
  obtain ⟨a1, a2, a3, a4, a5, a6, a7⟩ := h
  rcases Int.lt_or_le j wt with q | q
  · rcases hl with hl | hl
    · omega
    · have := hj (wt - 1) (by omega) (by omega)
      rw [a4 (wt - 1) (by omega)] at this
      exact absurd this hl
  · exact q
theorem zp_pn_run {w : Int → Int} {j : Int} (hj : 0 ≤ j) : ∀ (n : Nat), (∀ i, j ≤ i → i < j + n → 2 ≤ w i / 1048576 ∧ w i / 1048576 ≤ 6) → zp_pn w (j + n) = zp_pn w j + n := by
  intro n
  induction n with
  | zero => intro _; simp
  | succ n ih =>
    intro h
    have := ih (fun i i1 i2 => h i i1 (by omega))
    have e : j + ((n + 1 : Nat) : Int) = j + n + 1 := by omega
    rw [e, zp_pn_s (by omega), this, if_pos (Or.inl (h (j + n) (by omega) (by omega)))]
    omega
theorem zp_b_run {D w D1 w1 : Int → Int} {pl cm wt d pl1 cm1 wt1 d1 : Int} (h : zp_b D w pl cm wt d D1 w1 pl1 cm1 wt1 d1) (hl : zp_low0 w wt) (hd : 0 ≤ d) (hw : 0 ≤ wt) : zp_run w1 wt1 d1 := by
  intro j j1 j2 j3
  have jb := zp_b_base h hl j1 j3
  have e1 := zp_pn_run j1 (wt1 - j).toNat (fun i i1 i2 => j3 i i1 (by omega))
  rw [show j + (((wt1 - j).toNat : Nat) : Int) = wt1 by omega] at e1
  have e2 := zp_pn_le (w := w1) jb
  have e3 : zp_pn w1 wt = zp_pn w wt := zp_pn_cg fun k _ k2 => h.2.2.2.1 k k2
  have := h.2.2.2.2.2.1
  omega
/-- signs have been noted -/
theorem zp_b_cs {e0 : Nat} {D w D1 w1 D2 said2 : Int → Int} {pl cm wt d pl1 len cm1 wt1 d1 cm2 wt2 d2 : Int} (h : zp_b D w pl cm wt d D1 w1 pl1 cm1 wt1 d1) (hl : zp_low0 w wt) (hw2 : 0 ≤ wt2) (k : zp_cs e0 D1 w1 len cm1 wt1 d1 D2 said2 pl1 cm2 wt2 d2) : zp_b D w pl cm wt d D2 w1 pl1 cm2 wt2 d2 := by
  have jb := zp_b_base h hl hw2 k.2.2.2.2.2.1
  obtain ⟨a1, a2, a3, a4, a5, a6, a7⟩ := h
  obtain ⟨b1, b2, b3, b4, b5, b6, b7, b8⟩ := k
  exact ⟨fun x hx => by rw [b2 x (by omega), a1 x hx], by omega, jb, a4, fun j j1 j2 => a5 j j1 (by omega), by omega, a7⟩
/-- a sign comes to wait, and then a factor -/
theorem zp_b_sign {D w D1 w1 D3 w3 : Int → Int} {pl cm wt d pl1 cm1 wt1 d1 pl3 cm3 wt3 s : Int} (h : zp_b D w pl cm wt d D1 w1 pl1 cm1 wt1 d1) (h0 : 0 ≤ wt1) (hs : 2 ≤ s ∧ s ≤ 6) (hw : 0 ≤ wt) (k : zp_f D1 (zn_up w1 wt1 (1048576 * s)) (pl1 + 1) cm1 (wt1 + 1) D3 w3 pl3 cm3 wt3) : zp_b D w pl cm wt d D3 w3 pl3 cm3 wt3 (d1 + 1) := by
  obtain ⟨a1, a2, a3, a4, a5, a6, a7⟩ := h
  obtain ⟨b1, b2, b3, b4, b5, b6, b7⟩ := k
  have e : zp_pn (zn_up w1 wt1 (1048576 * s)) (wt1 + 1) = zp_pn w1 wt1 + 1 := by
    rw [zp_pn_s h0, zp_pn_up (Int.le_refl _), zn_up_s, if_pos (by omega)]
  refine ⟨fun x hx => by rw [b1 x (by omega), a1 x hx], by omega, by omega, fun j hj => ?_, fun j j1 j2 => ?_, by omega, by omega⟩
  · rw [b4 j (by omega), zn_up_n (by omega), a4 j hj]
  · by_cases e1 : j < wt1
    · rw [b4 j (by omega), zn_up_n (by omega)]; exact a5 j j1 e1
    · by_cases e2 : j = wt1
      · subst e2; rw [b4 j (by omega), zn_up_s]; omega
      · exact Or.inr (b5 j (by omega) j2)
/-- a bracket is closed -/
theorem zp_b_close {D w D1 w1 : Int → Int} {pl cm wt d pl1 cm1 wt1 d1 : Int} (h : zp_b D w pl cm wt d D1 w1 pl1 cm1 wt1 d1) (h0 : wt < wt1) (hw : 0 ≤ wt) (ht : w1 (wt1 - 1) / 1048576 = 14) : zp_b D w pl cm wt d D1 w1 (pl1 + 1) cm1 (wt1 - 1) d1 := by
  obtain ⟨a1, a2, a3, a4, a5, a6, a7⟩ := h
  have e := zp_pn_s (w := w1) (i := wt1 - 1) (by omega)
  rw [show wt1 - 1 + 1 = wt1 by omega, if_neg (by omega)] at e
  exact ⟨a1, a2, by omega, a4, fun j j1 j2 => a5 j j1 (by omega), by omega, by omega⟩
section ZREAD2
variable {e0 : Nat} {pl len fl op cm wt nb d : Int} {tape said w D : Int → Int} {Fr : List Int} {Gr : List (Int → Int)}
theorem zd228_0 : decode zxm228.2.1 0 = .ok (.aload_n 0, 1) := by decide +kernel
theorem zd228_1 : decode zxm228.2.1 1 = .ok (.invokevirtual 209, 3) := by decide +kernel
theorem zd228_4 : decode zxm228.2.1 4 = .ok (.iconst 4, 1) := by decide +kernel
theorem zd228_5 : decode zxm228.2.1 5 = .ok (.if_icmp .lt 12, 3) := by decide +kernel
theorem zd228_8 : decode zxm228.2.1 8 = .ok (.aload_n 0, 1) := by decide +kernel
theorem zd228_9 : decode zxm228.2.1 9 = .ok (.invokevirtual 209, 3) := by decide +kernel
theorem zd228_12 : decode zxm228.2.1 12 = .ok (.bipush 6, 2) := by decide +kernel
theorem zd228_14 : decode zxm228.2.1 14 = .ok (.if_icmp .le 23, 3) := by decide +kernel
theorem zd228_17 : decode zxm228.2.1 17 = .ok (.iload_n 1, 1) := by decide +kernel
theorem zd228_18 : decode zxm228.2.1 18 = .ok (.ifCond .eq 41, 3) := by decide +kernel
theorem zd228_21 : decode zxm228.2.1 21 = .ok (.aload_n 0, 1) := by decide +kernel
theorem zd228_22 : decode zxm228.2.1 22 = .ok (.invokevirtual 209, 3) := by decide +kernel
theorem zd228_25 : decode zxm228.2.1 25 = .ok (.iconst 2, 1) := by decide +kernel
theorem zd228_26 : decode zxm228.2.1 26 = .ok (.if_icmp .eq 11, 3) := by decide +kernel
theorem zd228_29 : decode zxm228.2.1 29 = .ok (.aload_n 0, 1) := by decide +kernel
theorem zd228_30 : decode zxm228.2.1 30 = .ok (.invokevirtual 209, 3) := by decide +kernel
theorem zd228_33 : decode zxm228.2.1 33 = .ok (.iconst 3, 1) := by decide +kernel
theorem zd228_34 : decode zxm228.2.1 34 = .ok (.if_icmp .ne 25, 3) := by decide +kernel
theorem zd228_37 : decode zxm228.2.1 37 = .ok (.aload_n 0, 1) := by decide +kernel
theorem zd228_38 : decode zxm228.2.1 38 = .ok (.aload_n 0, 1) := by decide +kernel
theorem zd228_39 : decode zxm228.2.1 39 = .ok (.invokevirtual 209, 3) := by decide +kernel
theorem zd228_42 : decode zxm228.2.1 42 = .ok (.iconst 0, 1) := by decide +kernel
theorem zd228_43 : decode zxm228.2.1 43 = .ok (.invokevirtual 212, 3) := by decide +kernel
theorem zd228_46 : decode zxm228.2.1 46 = .ok (.aload_n 0, 1) := by decide +kernel
theorem zd228_47 : decode zxm228.2.1 47 = .ok (.aload_n 0, 1) := by decide +kernel
theorem zd228_48 : decode zxm228.2.1 48 = .ok (.getfield 206, 3) := by decide +kernel
theorem zd228_51 : decode zxm228.2.1 51 = .ok (.iconst 1, 1) := by decide +kernel
theorem zd228_52 : decode zxm228.2.1 52 = .ok (.isub, 1) := by decide +kernel
theorem zd228_53 : decode zxm228.2.1 53 = .ok (.putfield 206, 3) := by decide +kernel
theorem zd228_56 : decode zxm228.2.1 56 = .ok (.goto (-56), 3) := by decide +kernel
theorem zd228_59 : decode zxm228.2.1 59 = .ok (.return_, 1) := by decide +kernel
theorem zh228 {al : Int} : zn_OK z_TB z_cl z_KX zyM zxm228 (1, 60) (fun va F G => va = [.inr 0, .inl al] ∧ F = pl :: len :: fl :: op :: cm :: wt :: Fr ∧ G = tape :: said :: w :: Gr ∧ zp_s e0 D said w pl len cm wt d ∧ zp_run w wt d) (fun va F G r F' G' => r = none ∧ ∃ D' said' cm' wt' d', F' = pl :: len :: fl :: op :: cm' :: wt' :: Fr ∧ G' = tape :: said' :: w :: Gr ∧ zp_cs e0 D w len cm wt d D' said' pl cm' wt' d' ∧ (al ≠ 0 → zp_low0 w wt')) := zn_meth (K := zkM) (FT := z_FT) (MT := z_MT) (n := 2) zxp228 (z_ks13 _ (fun _ h => List.mem_cons_of_mem _ h) _ _ _ _ (fun j r h _ => by cases h)) (fun _ _ => zs_K_p) (by decide +kernel) (fun va F G h => by obtain ⟨rfl, _⟩ := h; rfl) rfl fun good va F G hB hret hvret hP => by
  obtain ⟨rfl, rfl, rfl, hs, hd⟩ := hP
  have key : ∀ (n : Nat) (D said : Int → Int) (cm wt d : Int), zp_s e0 D said w pl len cm wt d → zp_run w wt d → wt < n → (∀ D' said' cm' wt' d', zp_cs e0 D w len cm wt d D' said' pl cm' wt' d' → (al ≠ 0 → zp_low0 w wt') → good 59 [.inr 0, .inl al] [] (pl :: len :: fl :: op :: cm' :: wt' :: Fr) (tape :: said' :: w :: Gr)) → good 0 [.inr 0, .inl al] [] (pl :: len :: fl :: op :: cm :: wt :: Fr) (tape :: said :: w :: Gr) := by
    intro n
    induction n with
    | zero => exact fun D said cm wt d hs _ hn => absurd hs.1.2.1 (by omega)
    | succ n ih =>
      intro D said cm wt d hs hd hn fin
      obtain ⟨a1, a2, a3, a4, a5, a6, a7, a8⟩ := hs.1
      have hw : 0 < wt → 0 ≤ w (wt - 1) := fun h => (hs.2.2 (wt - 1) (by omega) (by omega)).1
      have hpn := zp_pn_nn (w := w) (a := wt)
      have body : 2 ≤ zp_t w wt → zp_t w wt ≤ 6 → good 37 [.inr 0, .inl al] [] (pl :: len :: fl :: op :: cm :: wt :: Fr) (tape :: said :: w :: Gr) := by
        intro t1 t2
        obtain ⟨t3, t4⟩ := zp_t_pos (w := w) (wt := wt) (by omega)
        have g := zp_run_st hd (by omega) (by omega)
        have hp1 := (zp_pop hs (by omega) (by omega)).2
        rw [if_pos (by omega)] at hp1
        have hp2 := zp_pn_nn (w := w) (a := wt - 1)
        refine zn_ald hB zd228_37 rfl rfl rfl ?_
        refine zn_ald hB zd228_38 rfl rfl rfl ?_
        refine zn_iv0 hB (zh229 (pl := pl) (wt := wt) (w := w)) zd228_39 zxt229 rfl ⟨rfl, rfl, rfl, by omega, by omega, hw⟩ (fun r39 F39 G39 hq39 => ?_)
        obtain ⟨rfl, rfl, rfl⟩ := hq39
        refine zn_con hB zd228_42 rfl ?_
        refine zn_iv2 hB (zh225 (cm := cm) (said := said)) zd228_43 zxt225 rfl ⟨rfl, rfl, rfl, by omega, by omega, by omega, by omega, by omega, by omega⟩ (fun r43 F43 G43 hq43 => ?_)
        obtain ⟨rfl, rfl, rfl⟩ := hq43
        refine zn_ald hB zd228_46 rfl rfl rfl ?_
        refine zn_ald hB zd228_47 rfl rfl rfl ?_
        refine zn_getf hB zd228_48 rfl rfl (fun q48 r48 => ?_)
        refine zn_con hB zd228_51 rfl ?_
        refine zn_isub hB zd228_52 (by omega) (by omega) ?_
        refine zn_putf hB zd228_53 rfl rfl (fun h => by cases h) rfl ?_
        refine zn_goto hB zd228_56 rfl ?_
        obtain ⟨k1, k2⟩ := zp_cs_st hs (by omega) t4 ⟨t1, t2⟩ g.1 (D' := D) (said' := said) (cm' := 0) (wt' := 0) (d' := 0)
        exact ih _ _ _ _ _ k1 g.2 (by omega) (fun D' said' cm' wt' d' e1 e2 => fin D' said' cm' wt' d' ((zp_cs_st hs (by omega) t4 ⟨t1, t2⟩ g.1).2 e1) e2)
      refine zn_ald hB zd228_0 rfl rfl rfl ?_
      refine zn_iv0 hB (zh229 (pl := pl) (wt := wt) (w := w)) zd228_1 zxt229 rfl ⟨rfl, rfl, rfl, by omega, by omega, hw⟩ (fun r1 F1 G1 hq1 => ?_)
      obtain ⟨rfl, rfl, rfl⟩ := hq1
      refine zn_con hB zd228_4 rfl ?_
      refine zn_clt hB zd228_5 rfl (fun h5 => ?_) (fun h5 => ?_)
      · refine zn_ild hB zd228_17 rfl rfl ?_
        refine zn_zeq hB zd228_18 rfl (fun h18 => ?_) (fun h18 => ?_)
        · refine fin _ _ _ _ _ (zp_cs_rf hs) (fun ha => ?_)
          by_cases e : wt = 0
          · exact Or.inl e
          · have := zp_t_ne (w := w) e
            exact Or.inr (by omega)
        · refine zn_ald hB zd228_21 rfl rfl rfl ?_
          refine zn_iv0 hB (zh229 (pl := pl) (wt := wt) (w := w)) zd228_22 zxt229 rfl ⟨rfl, rfl, rfl, by omega, by omega, hw⟩ (fun r22 F22 G22 hq22 => ?_)
          obtain ⟨rfl, rfl, rfl⟩ := hq22
          refine zn_con hB zd228_25 rfl ?_
          refine zn_ceq hB zd228_26 rfl (fun h26 => ?_) (fun h26 => ?_)
          · exact body (by omega) (by omega)
          · refine zn_ald hB zd228_29 rfl rfl rfl ?_
            refine zn_iv0 hB (zh229 (pl := pl) (wt := wt) (w := w)) zd228_30 zxt229 rfl ⟨rfl, rfl, rfl, by omega, by omega, hw⟩ (fun r30 F30 G30 hq30 => ?_)
            obtain ⟨rfl, rfl, rfl⟩ := hq30
            refine zn_con hB zd228_33 rfl ?_
            refine zn_cne hB zd228_34 rfl (fun h34 => ?_) (fun h34 => ?_)
            · refine fin _ _ _ _ _ (zp_cs_rf hs) (fun ha => ?_)
              by_cases e : wt = 0
              · exact Or.inl e
              · have := zp_t_ne (w := w) e
                exact Or.inr (by omega)
            · exact body (by omega) (by omega)
      · refine zn_ald hB zd228_8 rfl rfl rfl ?_
        refine zn_iv0 hB (zh229 (pl := pl) (wt := wt) (w := w)) zd228_9 zxt229 rfl ⟨rfl, rfl, rfl, by omega, by omega, hw⟩ (fun r9 F9 G9 hq9 => ?_)
        obtain ⟨rfl, rfl, rfl⟩ := hq9
        refine zn_con hB zd228_12 rfl ?_
        refine zn_cle hB zd228_14 rfl (fun h14 => ?_) (fun h14 => ?_)
        · exact body (by omega) (by omega)
        · refine zn_ild hB zd228_17 rfl rfl ?_
          refine zn_zeq hB zd228_18 rfl (fun h18 => ?_) (fun h18 => ?_)
          · refine fin _ _ _ _ _ (zp_cs_rf hs) (fun ha => ?_)
            by_cases e : wt = 0
            · exact Or.inl e
            · have := zp_t_ne (w := w) e
              exact Or.inr (by omega)
          · refine zn_ald hB zd228_21 rfl rfl rfl ?_
            refine zn_iv0 hB (zh229 (pl := pl) (wt := wt) (w := w)) zd228_22 zxt229 rfl ⟨rfl, rfl, rfl, by omega, by omega, hw⟩ (fun r22 F22 G22 hq22 => ?_)
            obtain ⟨rfl, rfl, rfl⟩ := hq22
            refine zn_con hB zd228_25 rfl ?_
            refine zn_ceq hB zd228_26 rfl (fun h26 => ?_) (fun h26 => ?_)
            · exact body (by omega) (by omega)
            · refine zn_ald hB zd228_29 rfl rfl rfl ?_
              refine zn_iv0 hB (zh229 (pl := pl) (wt := wt) (w := w)) zd228_30 zxt229 rfl ⟨rfl, rfl, rfl, by omega, by omega, hw⟩ (fun r30 F30 G30 hq30 => ?_)
              obtain ⟨rfl, rfl, rfl⟩ := hq30
              refine zn_con hB zd228_33 rfl ?_
              refine zn_cne hB zd228_34 rfl (fun h34 => ?_) (fun h34 => ?_)
              · refine fin _ _ _ _ _ (zp_cs_rf hs) (fun ha => ?_)
                by_cases e : wt = 0
                · exact Or.inl e
                · have := zp_t_ne (w := w) e
                  exact Or.inr (by omega)
              · exact body (by omega) (by omega)
  refine key (wt.toNat + 1) D said cm wt d hs hd (by have := hs.1.2.1; omega) (fun D' said' cm' wt' d' e1 e2 => ?_)
  exact hvret _ _ _ _ zd228_59 trivial ⟨rfl, D', said', cm', wt', d', rfl, rfl, e1, e2⟩
theorem zd221_0 : decode zxm221.2.1 0 = .ok (.aload_n 0, 1) := by decide +kernel
theorem zd221_1 : decode zxm221.2.1 1 = .ok (.invokevirtual 182, 3) := by decide +kernel
theorem zd221_4 : decode zxm221.2.1 4 = .ok (.bipush 91, 2) := by decide +kernel
theorem zd221_6 : decode zxm221.2.1 6 = .ok (.if_icmp .ne 14, 3) := by decide +kernel
theorem zd221_9 : decode zxm221.2.1 9 = .ok (.aload_n 0, 1) := by decide +kernel
theorem zd221_10 : decode zxm221.2.1 10 = .ok (.bipush 14, 2) := by decide +kernel
theorem zd221_12 : decode zxm221.2.1 12 = .ok (.invokevirtual 216, 3) := by decide +kernel
theorem zd221_15 : decode zxm221.2.1 15 = .ok (.ifCond .ne (-15), 3) := by decide +kernel
theorem zd221_18 : decode zxm221.2.1 18 = .ok (.iconst 0, 1) := by decide +kernel
theorem zd221_19 : decode zxm221.2.1 19 = .ok (.ireturn, 1) := by decide +kernel
theorem zd221_20 : decode zxm221.2.1 20 = .ok (.aload_n 0, 1) := by decide +kernel
theorem zd221_21 : decode zxm221.2.1 21 = .ok (.invokevirtual 195, 3) := by decide +kernel
theorem zd221_24 : decode zxm221.2.1 24 = .ok (.ifCond .eq 23, 3) := by decide +kernel
theorem zd221_27 : decode zxm221.2.1 27 = .ok (.aload_n 0, 1) := by decide +kernel
theorem zd221_28 : decode zxm221.2.1 28 = .ok (.invokevirtual 219, 3) := by decide +kernel
theorem zd221_31 : decode zxm221.2.1 31 = .ok (.ifCond .ne 5, 3) := by decide +kernel
theorem zd221_34 : decode zxm221.2.1 34 = .ok (.iconst 0, 1) := by decide +kernel
theorem zd221_35 : decode zxm221.2.1 35 = .ok (.ireturn, 1) := by decide +kernel
theorem zd221_36 : decode zxm221.2.1 36 = .ok (.aload_n 0, 1) := by decide +kernel
theorem zd221_37 : decode zxm221.2.1 37 = .ok (.iconst 0, 1) := by decide +kernel
theorem zd221_38 : decode zxm221.2.1 38 = .ok (.aload_n 0, 1) := by decide +kernel
theorem zd221_39 : decode zxm221.2.1 39 = .ok (.getfield 192, 3) := by decide +kernel
theorem zd221_42 : decode zxm221.2.1 42 = .ok (.invokevirtual 212, 3) := by decide +kernel
theorem zd221_45 : decode zxm221.2.1 45 = .ok (.iconst 1, 1) := by decide +kernel
theorem zd221_46 : decode zxm221.2.1 46 = .ok (.ireturn, 1) := by decide +kernel
theorem zd221_47 : decode zxm221.2.1 47 = .ok (.aload_n 0, 1) := by decide +kernel
theorem zd221_48 : decode zxm221.2.1 48 = .ok (.invokevirtual 182, 3) := by decide +kernel
theorem zd221_51 : decode zxm221.2.1 51 = .ok (.invokestatic 222, 3) := by decide +kernel
theorem zd221_54 : decode zxm221.2.1 54 = .ok (.istore_n 1, 1) := by decide +kernel
theorem zd221_55 : decode zxm221.2.1 55 = .ok (.iload_n 1, 1) := by decide +kernel
theorem zd221_56 : decode zxm221.2.1 56 = .ok (.iconst (-1), 1) := by decide +kernel
theorem zd221_57 : decode zxm221.2.1 57 = .ok (.if_icmp .ne 13, 3) := by decide +kernel
theorem zd221_60 : decode zxm221.2.1 60 = .ok (.aload_n 0, 1) := by decide +kernel
theorem zd221_61 : decode zxm221.2.1 61 = .ok (.iconst 1, 1) := by decide +kernel
theorem zd221_62 : decode zxm221.2.1 62 = .ok (.aload_n 0, 1) := by decide +kernel
theorem zd221_63 : decode zxm221.2.1 63 = .ok (.getfield 176, 3) := by decide +kernel
theorem zd221_66 : decode zxm221.2.1 66 = .ok (.invokevirtual 189, 3) := by decide +kernel
theorem zd221_69 : decode zxm221.2.1 69 = .ok (.ireturn, 1) := by decide +kernel
theorem zd221_70 : decode zxm221.2.1 70 = .ok (.aload_n 0, 1) := by decide +kernel
theorem zd221_71 : decode zxm221.2.1 71 = .ok (.iconst 1, 1) := by decide +kernel
theorem zd221_72 : decode zxm221.2.1 72 = .ok (.iload_n 1, 1) := by decide +kernel
theorem zd221_73 : decode zxm221.2.1 73 = .ok (.invokevirtual 212, 3) := by decide +kernel
theorem zd221_76 : decode zxm221.2.1 76 = .ok (.aload_n 0, 1) := by decide +kernel
theorem zd221_77 : decode zxm221.2.1 77 = .ok (.aload_n 0, 1) := by decide +kernel
theorem zd221_78 : decode zxm221.2.1 78 = .ok (.getfield 176, 3) := by decide +kernel
theorem zd221_81 : decode zxm221.2.1 81 = .ok (.iconst 1, 1) := by decide +kernel
theorem zd221_82 : decode zxm221.2.1 82 = .ok (.iadd, 1) := by decide +kernel
theorem zd221_83 : decode zxm221.2.1 83 = .ok (.putfield 176, 3) := by decide +kernel
theorem zd221_86 : decode zxm221.2.1 86 = .ok (.iconst 1, 1) := by decide +kernel
theorem zd221_87 : decode zxm221.2.1 87 = .ok (.ireturn, 1) := by decide +kernel
theorem zh221  : zn_OK z_TB z_cl z_KX zyM zxm221 (3, 180) (fun va F G => va = [.inr 0] ∧ F = pl :: len :: fl :: op :: cm :: wt :: nb :: Fr ∧ G = tape :: said :: w :: Gr ∧ zp_s e0 D said w pl len cm wt d) (fun va F G r F' G' => (r = some 0 ∧ zp_no len tape Fr Gr F' G') ∨ (r = some 1 ∧ ∃ D' said' w' pl' op' cm' wt' nb', F' = pl' :: len :: fl :: op' :: cm' :: wt' :: nb' :: Fr ∧ G' = tape :: said' :: w' :: Gr ∧ zp_f D w pl cm wt D' w' pl' cm' wt' ∧ pl < pl' ∧ zp_s e0 D' said' w' pl' len cm' wt' (d + 1) ∧ cm' + zp_pn w' wt' - cm - zp_pn w wt ≤ pl' - pl)) := zn_meth (K := zkM) (FT := z_FT) (MT := z_MT) (n := 1) zxp221 (z_ks13 _ (fun _ h => List.mem_cons_of_mem _ h) _ _ _ _ (fun j r h _ => by cases h)) (fun _ _ => zs_K_p) (by decide +kernel) (fun va F G h => by obtain ⟨rfl, _⟩ := h; rfl) rfl fun good va F G hB hret hvret hP => by
  obtain ⟨rfl, rfl, rfl, hs⟩ := hP
  have key : ∀ (n : Nat) (w : Int → Int) (pl op wt : Int), zp_s e0 D said w pl len cm wt d → len - pl < n → (∀ D' said' w' pl' op' cm' wt' nb', zp_f D w pl cm wt D' w' pl' cm' wt' → pl < pl' → zp_s e0 D' said' w' pl' len cm' wt' (d + 1) → cm' + zp_pn w' wt' - cm - zp_pn w wt ≤ pl' - pl → ∀ pc L, decode zxm221.2.1 pc = .ok (.ireturn, 1) → good pc L [.inl 1] (pl' :: len :: fl :: op' :: cm' :: wt' :: nb' :: Fr) (tape :: said' :: w' :: Gr)) → good 0 [.inr 0, .inr 1000] [] (pl :: len :: fl :: op :: cm :: wt :: nb :: Fr) (tape :: said :: w :: Gr) := by
    intro n
    induction n with
    | zero =>
      intro w pl op wt hs hn fin
      have := hs.1
      exfalso; omega
    | succ n ih =>
      intro w pl op wt hs hn fin
      obtain ⟨a1, a2, a3, a4, a5, a6, a7, a8⟩ := hs.1
      have hpn := zp_pn_nn (w := w) (a := wt)
      refine zn_ald hB zd221_0 rfl rfl rfl ?_
      refine zn_iv0 hB (zh217 (pl := pl) (len := len) (tape := tape)) zd221_1 zxt217 rfl ⟨rfl, rfl, rfl, by omega, by omega⟩ (fun r1 F1 G1 hq1 => ?_)
      obtain ⟨rfl, rfl, rfl⟩ := hq1
      refine zn_con hB zd221_4 rfl ?_
      refine zn_cne hB zd221_6 rfl (fun h6 => ?_) (fun h6 => ?_)
      · refine zn_ald hB zd221_20 rfl rfl rfl ?_
        refine zn_iv0 hB (zh223 (pl := pl) (len := len) (tape := tape)) zd221_21 zxt223 rfl ⟨rfl, rfl, rfl, by omega, by omega⟩ (fun r21 F21 G21 hq21 => ?_)
        obtain ⟨rfl, rfl, hd⟩ := hq21
        rcases hd with ⟨rfl, g1, g2⟩ | ⟨rfl, g1⟩
        · refine zn_zeq hB zd221_24 rfl (fun h24 => ?_) (fun h24 => ?_)
          · exfalso; omega
          · refine zn_ald hB zd221_27 rfl rfl rfl ?_
            refine zn_iv0 hB (zh224 (pl := pl) (len := len) (tape := tape)) zd221_28 zxt224 rfl ⟨rfl, rfl, rfl, by omega, by omega, by omega, g1, g2⟩ (fun r28 F28 G28 hq28 => ?_)
            rcases hq28 with ⟨rfl, p0, f0, n0, rfl, rfl⟩ | ⟨rfl, p1, n1, rfl, rfl, e1, e2, e3, e4⟩
            · refine zn_zne hB zd221_31 rfl (fun h31 => ?_) (fun h31 => ?_)
              · exfalso; omega
              · refine zn_con hB zd221_34 rfl ?_
                exact hret _ _ _ _ _ zd221_35 (by constructor <;> decide) (Or.inl ⟨rfl, _, _, _, _, _, _, _, _, rfl, rfl⟩)
            · refine zn_zne hB zd221_31 rfl (fun h31 => ?_) (fun h31 => ?_)
              · refine zn_ald hB zd221_36 rfl rfl rfl ?_
                refine zn_con hB zd221_37 rfl ?_
                refine zn_ald hB zd221_38 rfl rfl rfl ?_
                refine zn_getf hB zd221_39 rfl rfl (fun q39 r39 => ?_)
                refine zn_iv2 hB (zh225 (cm := cm) (said := said)) zd221_42 zxt225 rfl ⟨rfl, rfl, rfl, by omega, by omega, by omega, by omega, by omega, by omega⟩ (fun r42 F42 G42 hq42 => ?_)
                obtain ⟨rfl, rfl, rfl⟩ := hq42
                refine zn_con hB zd221_45 rfl ?_
                exact fin _ _ _ _ _ _ _ _ (zp_f_note (v := d + 1) (by omega)) e1 (zp_note (pl2 := p1) (op := 0) (v := n1) (d' := d + 1) hs (by omega) (by omega) (by omega) (by omega) (Or.inl (by omega))) (by omega) _ _ zd221_46
              · exfalso; omega
        · refine zn_zeq hB zd221_24 rfl (fun h24 => ?_) (fun h24 => ?_)
          · refine zn_ald hB zd221_47 rfl rfl rfl ?_
            refine zn_iv0 hB (zh217 (pl := pl) (len := len) (tape := tape)) zd221_48 zxt217 rfl ⟨rfl, rfl, rfl, by omega, by omega⟩ (fun r48 F48 G48 hq48 => ?_)
            obtain ⟨rfl, rfl, rfl⟩ := hq48
            refine zn_it1 hB zh226 zd221_51 zxt226 rfl rfl (fun r51 F51 G51 hq51 => ?_)
            obtain ⟨rfl, rfl, x, rfl, x1, x2, x3⟩ := hq51
            refine zn_ist hB zd221_54 rfl rfl rfl ?_
            refine zn_ild hB zd221_55 rfl rfl ?_
            refine zn_con hB zd221_56 rfl ?_
            refine zn_cne hB zd221_57 rfl (fun h57 => ?_) (fun h57 => ?_)
            · have hlt := zp_h_lt (tape := tape) (pl := pl) (len := len) (by omega)
              refine zn_ald hB zd221_70 rfl rfl rfl ?_
              refine zn_con hB zd221_71 rfl ?_
              refine zn_ild hB zd221_72 rfl rfl ?_
              refine zn_iv2 hB (zh225 (cm := cm) (said := said)) zd221_73 zxt225 rfl ⟨rfl, rfl, rfl, by omega, by omega, by omega, by omega, by omega, by omega⟩ (fun r73 F73 G73 hq73 => ?_)
              obtain ⟨rfl, rfl, rfl⟩ := hq73
              refine zn_ald hB zd221_76 rfl rfl rfl ?_
              refine zn_ald hB zd221_77 rfl rfl rfl ?_
              refine zn_getf hB zd221_78 rfl rfl (fun q78 r78 => ?_)
              refine zn_con hB zd221_81 rfl ?_
              refine zn_iadd hB zd221_82 (by omega) (by omega) ?_
              refine zn_putf hB zd221_83 rfl rfl (fun h => by cases h) rfl ?_
              refine zn_con hB zd221_86 rfl ?_
              exact fin _ _ _ _ _ _ _ _ (zp_f_note (pl' := pl + 1) (v := d + 1) (by omega)) (by omega) (zp_note (pl2 := pl + 1) (op := 1) (v := x) (d' := d + 1) hs (by omega) (by omega) (by omega) (by omega) (Or.inr (Or.inl (by omega)))) (by omega) _ _ zd221_87
            · refine zn_ald hB zd221_60 rfl rfl rfl ?_
              refine zn_con hB zd221_61 rfl ?_
              refine zn_ald hB zd221_62 rfl rfl rfl ?_
              refine zn_getf hB zd221_63 rfl rfl (fun q63 r63 => ?_)
              refine zn_iv2 hB zh219 zd221_66 zxt219 rfl ⟨rfl, rfl⟩ (fun r66 F66 G66 hq66 => ?_)
              obtain ⟨rfl, fl1, rfl, rfl⟩ := hq66
              exact hret _ _ _ _ _ zd221_69 (by constructor <;> decide) (Or.inl ⟨rfl, _, _, _, _, _, _, _, _, rfl, rfl⟩)
          · exfalso; omega
      · have hlt := zp_h_lt (tape := tape) (pl := pl) (len := len) (by omega)
        refine zn_ald hB zd221_9 rfl rfl rfl ?_
        refine zn_con hB zd221_10 rfl ?_
        refine zn_iv1 hB (zh222 (pl := pl) (wt := wt) (w := w)) zd221_12 zxt222 rfl ⟨rfl, rfl, rfl, by omega, by omega, by omega, by omega, by omega, by omega⟩ (fun r12 F12 G12 hq12 => ?_)
        rcases hq12 with ⟨rfl, f0, rfl, rfl⟩ | ⟨rfl, op1, rfl, rfl⟩
        · refine zn_zne hB zd221_15 rfl (fun h15 => ?_) (fun h15 => ?_)
          · exfalso; omega
          · refine zn_con hB zd221_18 rfl ?_
            exact hret _ _ _ _ _ zd221_19 (by constructor <;> decide) (Or.inl ⟨rfl, _, _, _, _, _, _, _, _, rfl, rfl⟩)
        · refine zn_zne hB zd221_15 rfl (fun h15 => ?_) (fun h15 => ?_)
          · exact ih _ _ _ _ (zp_push (pl2 := pl + 1) hs (by omega) (by rw [if_neg (by omega)]; omega)) (by omega) (fun D' said' w' pl' op' cm' wt' nb' e1 e2 e3 e4 => fin D' said' w' pl' op' cm' wt' nb' (zp_f_open (by omega) e1) (by omega) e3 (by rw [zp_pn_s a2, zp_pn_up (Int.le_refl _), zn_up_s, if_neg (by omega)] at e4; omega))
          · exfalso; omega
  refine key ((len - pl).toNat + 1) w pl op wt hs (by omega) (fun D' said' w' pl' op' cm' wt' nb' e1 e2 e3 e4 pc L hd => ?_)
  exact hret _ _ _ _ _ hd (by constructor <;> decide) (Or.inr ⟨rfl, D', said', w', pl', op', cm', wt', nb', rfl, rfl, e1, e2, e3, e4⟩)
end ZREAD2
end
section
/-! The reading of laws: a whole sum; ends of pieces, jumps and where they land. -/
/-- nots that wait are noted -/
def zp_e (e0 : Nat) (D w : Int → Int) (pl len cm wt d : Int) (D' said' : Int → Int) (cm' wt' : Int) : Prop :=
  zp_s e0 D' said' w pl len cm' wt' d ∧ (∀ k, k ≤ cm → D' k = D k) ∧ wt' ≤ wt ∧ cm ≤ cm' ∧ (∀ i, wt' ≤ i → i < wt → w i / 1048576 = 10)
theorem zp_e_rf {e0 : Nat} {D said w : Int → Int} {pl len cm wt d : Int} (h : zp_s e0 D said w pl len cm wt d) : zp_e e0 D w pl len cm wt d D said cm wt :=
  ⟨h, fun _ _ => rfl, Int.le_refl _, Int.le_refl _, fun i h1 h2 => absurd h1 (by omega)⟩
theorem zp_e_st {e0 : Nat} {D said w : Int → Int} {pl len cm wt d : Int} (h : zp_s e0 D said w pl len cm wt d) (h0 : 0 < wt) (h1 : w (wt - 1) / 1048576 = 10) (h2 : 1 ≤ d) :
    zp_s e0 (zn_up D (cm + 1) d) (zn_up said cm (1048576 * 10 + 0)) w pl len (cm + 1) (wt - 1) d ∧ ∀ D' said' cm' wt', zp_e e0 (zn_up D (cm + 1) d) w pl len (cm + 1) (wt - 1) d D' said' cm' wt' → zp_e e0 D w pl len cm wt d D' said' cm' wt' := by
  obtain ⟨g1, g2⟩ := zp_pop h h0 (by omega)
  rw [if_pos (by omega)] at g2
  have hb := h.1
  refine ⟨zp_note g1 (by omega) (by omega) (by omega) (by omega) (Or.inr (Or.inr (Or.inr (by omega)))), fun D' said' cm' wt' ⟨a1, a2, a3, a4, a5⟩ => ⟨a1, fun k hk => ?_, by omega, by omega, fun i i1 i2 => ?_⟩⟩
  · rw [a2 k (by omega), zn_up_n (by omega)]
  · by_cases e : i = wt - 1
    · subst e; omega
    · exact a5 i i1 (by omega)
/-- jumps that wait land -/
def zp_l (e0 : Nat) (D w : Int → Int) (pl len cm wt d : Int) (said' : Int → Int) (wt' : Int) : Prop :=
  zp_s e0 D said' w pl len cm wt' d ∧ wt' ≤ wt ∧ (∀ i, wt' ≤ i → i < wt → w i / 1048576 = 11 ∨ w i / 1048576 = 12)
section ZREAD3
variable {e0 : Nat} {pl len fl op cm wt nb d : Int} {tape said w D : Int → Int} {Fr : List Int} {Gr : List (Int → Int)}
theorem zd220_0 : decode zxm220.2.1 0 = .ok (.aload_n 0, 1) := by decide +kernel
theorem zd220_1 : decode zxm220.2.1 1 = .ok (.getfield 206, 3) := by decide +kernel
theorem zd220_4 : decode zxm220.2.1 4 = .ok (.istore_n 1, 1) := by decide +kernel
theorem zd220_5 : decode zxm220.2.1 5 = .ok (.aload_n 0, 1) := by decide +kernel
theorem zd220_6 : decode zxm220.2.1 6 = .ok (.invokevirtual 225, 3) := by decide +kernel
theorem zd220_9 : decode zxm220.2.1 9 = .ok (.ifCond .ne 5, 3) := by decide +kernel
theorem zd220_12 : decode zxm220.2.1 12 = .ok (.iconst 0, 1) := by decide +kernel
theorem zd220_13 : decode zxm220.2.1 13 = .ok (.ireturn, 1) := by decide +kernel
theorem zd220_14 : decode zxm220.2.1 14 = .ok (.aload_n 0, 1) := by decide +kernel
theorem zd220_15 : decode zxm220.2.1 15 = .ok (.invokevirtual 182, 3) := by decide +kernel
theorem zd220_18 : decode zxm220.2.1 18 = .ok (.invokestatic 228, 3) := by decide +kernel
theorem zd220_21 : decode zxm220.2.1 21 = .ok (.istore_n 2, 1) := by decide +kernel
theorem zd220_22 : decode zxm220.2.1 22 = .ok (.iload_n 2, 1) := by decide +kernel
theorem zd220_23 : decode zxm220.2.1 23 = .ok (.iconst (-1), 1) := by decide +kernel
theorem zd220_24 : decode zxm220.2.1 24 = .ok (.if_icmp .eq 59, 3) := by decide +kernel
theorem zd220_27 : decode zxm220.2.1 27 = .ok (.aload_n 0, 1) := by decide +kernel
theorem zd220_28 : decode zxm220.2.1 28 = .ok (.iload_n 2, 1) := by decide +kernel
theorem zd220_29 : decode zxm220.2.1 29 = .ok (.iconst 4, 1) := by decide +kernel
theorem zd220_30 : decode zxm220.2.1 30 = .ok (.if_icmp .ge 7, 3) := by decide +kernel
theorem zd220_33 : decode zxm220.2.1 33 = .ok (.iconst 1, 1) := by decide +kernel
theorem zd220_34 : decode zxm220.2.1 34 = .ok (.goto 4, 3) := by decide +kernel
theorem zd220_37 : decode zxm220.2.1 37 = .ok (.iconst 0, 1) := by decide +kernel
theorem zd220_38 : decode zxm220.2.1 38 = .ok (.invokevirtual 231, 3) := by decide +kernel
theorem zd220_41 : decode zxm220.2.1 41 = .ok (.aload_n 0, 1) := by decide +kernel
theorem zd220_42 : decode zxm220.2.1 42 = .ok (.getfield 26, 3) := by decide +kernel
theorem zd220_45 : decode zxm220.2.1 45 = .ok (.aload_n 0, 1) := by decide +kernel
theorem zd220_46 : decode zxm220.2.1 46 = .ok (.getfield 206, 3) := by decide +kernel
theorem zd220_49 : decode zxm220.2.1 49 = .ok (.ldc 202, 2) := by decide +kernel
theorem zd220_51 : decode zxm220.2.1 51 = .ok (.iload_n 2, 1) := by decide +kernel
theorem zd220_52 : decode zxm220.2.1 52 = .ok (.imul, 1) := by decide +kernel
theorem zd220_53 : decode zxm220.2.1 53 = .ok (.iastore, 1) := by decide +kernel
theorem zd220_54 : decode zxm220.2.1 54 = .ok (.aload_n 0, 1) := by decide +kernel
theorem zd220_55 : decode zxm220.2.1 55 = .ok (.aload_n 0, 1) := by decide +kernel
theorem zd220_56 : decode zxm220.2.1 56 = .ok (.getfield 206, 3) := by decide +kernel
theorem zd220_59 : decode zxm220.2.1 59 = .ok (.iconst 1, 1) := by decide +kernel
theorem zd220_60 : decode zxm220.2.1 60 = .ok (.iadd, 1) := by decide +kernel
theorem zd220_61 : decode zxm220.2.1 61 = .ok (.putfield 206, 3) := by decide +kernel
theorem zd220_64 : decode zxm220.2.1 64 = .ok (.aload_n 0, 1) := by decide +kernel
theorem zd220_65 : decode zxm220.2.1 65 = .ok (.aload_n 0, 1) := by decide +kernel
theorem zd220_66 : decode zxm220.2.1 66 = .ok (.getfield 176, 3) := by decide +kernel
theorem zd220_69 : decode zxm220.2.1 69 = .ok (.iconst 1, 1) := by decide +kernel
theorem zd220_70 : decode zxm220.2.1 70 = .ok (.iadd, 1) := by decide +kernel
theorem zd220_71 : decode zxm220.2.1 71 = .ok (.putfield 176, 3) := by decide +kernel
theorem zd220_74 : decode zxm220.2.1 74 = .ok (.aload_n 0, 1) := by decide +kernel
theorem zd220_75 : decode zxm220.2.1 75 = .ok (.invokevirtual 225, 3) := by decide +kernel
theorem zd220_78 : decode zxm220.2.1 78 = .ok (.ifCond .ne 85, 3) := by decide +kernel
theorem zd220_81 : decode zxm220.2.1 81 = .ok (.iconst 0, 1) := by decide +kernel
theorem zd220_82 : decode zxm220.2.1 82 = .ok (.ireturn, 1) := by decide +kernel
theorem zd220_83 : decode zxm220.2.1 83 = .ok (.aload_n 0, 1) := by decide +kernel
theorem zd220_84 : decode zxm220.2.1 84 = .ok (.invokevirtual 182, 3) := by decide +kernel
theorem zd220_87 : decode zxm220.2.1 87 = .ok (.bipush 93, 2) := by decide +kernel
theorem zd220_89 : decode zxm220.2.1 89 = .ok (.if_icmp .ne 49, 3) := by decide +kernel
theorem zd220_92 : decode zxm220.2.1 92 = .ok (.aload_n 0, 1) := by decide +kernel
theorem zd220_93 : decode zxm220.2.1 93 = .ok (.iload_n 1, 1) := by decide +kernel
theorem zd220_94 : decode zxm220.2.1 94 = .ok (.invokevirtual 235, 3) := by decide +kernel
theorem zd220_97 : decode zxm220.2.1 97 = .ok (.ifCond .eq 41, 3) := by decide +kernel
theorem zd220_100 : decode zxm220.2.1 100 = .ok (.aload_n 0, 1) := by decide +kernel
theorem zd220_101 : decode zxm220.2.1 101 = .ok (.iconst 1, 1) := by decide +kernel
theorem zd220_102 : decode zxm220.2.1 102 = .ok (.invokevirtual 231, 3) := by decide +kernel
theorem zd220_105 : decode zxm220.2.1 105 = .ok (.aload_n 0, 1) := by decide +kernel
theorem zd220_106 : decode zxm220.2.1 106 = .ok (.aload_n 0, 1) := by decide +kernel
theorem zd220_107 : decode zxm220.2.1 107 = .ok (.getfield 206, 3) := by decide +kernel
theorem zd220_110 : decode zxm220.2.1 110 = .ok (.iconst 1, 1) := by decide +kernel
theorem zd220_111 : decode zxm220.2.1 111 = .ok (.isub, 1) := by decide +kernel
theorem zd220_112 : decode zxm220.2.1 112 = .ok (.putfield 206, 3) := by decide +kernel
theorem zd220_115 : decode zxm220.2.1 115 = .ok (.aload_n 0, 1) := by decide +kernel
theorem zd220_116 : decode zxm220.2.1 116 = .ok (.aload_n 0, 1) := by decide +kernel
theorem zd220_117 : decode zxm220.2.1 117 = .ok (.getfield 203, 3) := by decide +kernel
theorem zd220_120 : decode zxm220.2.1 120 = .ok (.iconst 1, 1) := by decide +kernel
theorem zd220_121 : decode zxm220.2.1 121 = .ok (.isub, 1) := by decide +kernel
theorem zd220_122 : decode zxm220.2.1 122 = .ok (.putfield 203, 3) := by decide +kernel
theorem zd220_125 : decode zxm220.2.1 125 = .ok (.aload_n 0, 1) := by decide +kernel
theorem zd220_126 : decode zxm220.2.1 126 = .ok (.aload_n 0, 1) := by decide +kernel
theorem zd220_127 : decode zxm220.2.1 127 = .ok (.getfield 176, 3) := by decide +kernel
theorem zd220_130 : decode zxm220.2.1 130 = .ok (.iconst 1, 1) := by decide +kernel
theorem zd220_131 : decode zxm220.2.1 131 = .ok (.iadd, 1) := by decide +kernel
theorem zd220_132 : decode zxm220.2.1 132 = .ok (.putfield 176, 3) := by decide +kernel
theorem zd220_135 : decode zxm220.2.1 135 = .ok (.goto 28, 3) := by decide +kernel
theorem zd220_138 : decode zxm220.2.1 138 = .ok (.aload_n 0, 1) := by decide +kernel
theorem zd220_139 : decode zxm220.2.1 139 = .ok (.iload_n 1, 1) := by decide +kernel
theorem zd220_140 : decode zxm220.2.1 140 = .ok (.invokevirtual 235, 3) := by decide +kernel
theorem zd220_143 : decode zxm220.2.1 143 = .ok (.ifCond .eq 13, 3) := by decide +kernel
theorem zd220_146 : decode zxm220.2.1 146 = .ok (.aload_n 0, 1) := by decide +kernel
theorem zd220_147 : decode zxm220.2.1 147 = .ok (.iconst 1, 1) := by decide +kernel
theorem zd220_148 : decode zxm220.2.1 148 = .ok (.aload_n 0, 1) := by decide +kernel
theorem zd220_149 : decode zxm220.2.1 149 = .ok (.getfield 176, 3) := by decide +kernel
theorem zd220_152 : decode zxm220.2.1 152 = .ok (.invokevirtual 189, 3) := by decide +kernel
theorem zd220_155 : decode zxm220.2.1 155 = .ok (.ireturn, 1) := by decide +kernel
theorem zd220_156 : decode zxm220.2.1 156 = .ok (.aload_n 0, 1) := by decide +kernel
theorem zd220_157 : decode zxm220.2.1 157 = .ok (.iconst 1, 1) := by decide +kernel
theorem zd220_158 : decode zxm220.2.1 158 = .ok (.invokevirtual 231, 3) := by decide +kernel
theorem zd220_161 : decode zxm220.2.1 161 = .ok (.iconst 1, 1) := by decide +kernel
theorem zd220_162 : decode zxm220.2.1 162 = .ok (.ireturn, 1) := by decide +kernel
theorem zd220_163 : decode zxm220.2.1 163 = .ok (.goto (-149), 3) := by decide +kernel
theorem zh220  : zn_OK z_TB z_cl z_KX zyM zxm220 (4, 240) (fun va F G => va = [.inr 0] ∧ F = pl :: len :: fl :: op :: cm :: wt :: nb :: Fr ∧ G = tape :: said :: w :: Gr ∧ zp_s e0 D said w pl len cm wt d ∧ zp_low0 w wt) (fun va F G r F' G' => (r = some 0 ∧ zp_no len tape Fr Gr F' G') ∨ (r = some 1 ∧ ∃ D' said' w' pl' op' cm' nb', F' = pl' :: len :: fl :: op' :: cm' :: wt :: nb' :: Fr ∧ G' = tape :: said' :: w' :: Gr ∧ zp_s e0 D' said' w' pl' len cm' wt (d + 1) ∧ (∀ k, k ≤ cm → D' k = D k) ∧ cm ≤ cm' ∧ (∀ j, j < wt → w' j = w j) ∧ pl < pl' ∧ cm' - cm ≤ pl' - pl)) := zn_meth (K := zkM) (FT := z_FT) (MT := z_MT) (n := 1) zxp220 (z_ks13 _ (fun _ h => List.mem_cons_of_mem _ h) _ _ _ _ (fun j r h _ => by cases h)) (fun _ _ => zs_K_p) (by decide +kernel) (fun va F G h => by obtain ⟨rfl, _⟩ := h; rfl) rfl fun good va F G hB hret hvret hP => by
  obtain ⟨rfl, rfl, rfl, hs, hl⟩ := hP
  obtain ⟨a1, a2, a3, a4, a5, a6, a7, a8⟩ := hs.1
  have key : ∀ (n : Nat) (x : zNV) (D1 said1 w1 : Int → Int) (pl1 op1 cm1 wt1 nb1 d1 : Int), zp_s e0 D1 said1 w1 pl1 len cm1 wt1 d1 → zp_b D w pl cm wt d D1 w1 pl1 cm1 wt1 d1 → cm1 + zp_pn w1 wt1 - cm - zp_pn w wt ≤ pl1 - pl → len - pl1 < n → good 14 [.inr 0, .inl wt, x] [] (pl1 :: len :: fl :: op1 :: cm1 :: wt1 :: nb1 :: Fr) (tape :: said1 :: w1 :: Gr) := by
    intro n
    induction n with
    | zero =>
      intro x D1 said1 w1 pl1 op1 cm1 wt1 nb1 d1 h1 hb hg hn
      have := h1.1
      exfalso; omega
    | succ n ih =>
      intro x D1 said1 w1 pl1 op1 cm1 wt1 nb1 d1 h1 hb hg hn
      obtain ⟨b1, b2, b3, b4, b5, b6, b7, b8⟩ := h1.1
      have hpn := zp_pn_nn (w := w1) (a := wt1)
      have hnn : ∀ j, wt ≤ j → j < wt1 → 0 ≤ w1 j := fun j j1 j2 => (h1.2.2 j (by omega) j2).1
      have hwb := hb.2.2.1
      refine zn_ald hB zd220_14 rfl rfl rfl ?_
      refine zn_iv0 hB (zh217 (pl := pl1) (len := len) (tape := tape)) zd220_15 zxt217 rfl ⟨rfl, rfl, rfl, by omega, by omega⟩ (fun r15 F15 G15 hq15 => ?_)
      obtain ⟨rfl, rfl, rfl⟩ := hq15
      refine zn_it1 hB zh227 zd220_18 zxt227 rfl rfl (fun r18 F18 G18 hq18 => ?_)
      obtain ⟨rfl, rfl, s, rfl, hsg⟩ := hq18
      refine zn_ist hB zd220_21 rfl rfl rfl ?_
      refine zn_ild hB zd220_22 rfl rfl ?_
      refine zn_con hB zd220_23 rfl ?_
      refine zn_ceq hB zd220_24 rfl (fun h24 => ?_) (fun h24 => ?_)
      · refine zn_ald hB zd220_83 rfl rfl rfl ?_
        refine zn_iv0 hB (zh217 (pl := pl1) (len := len) (tape := tape)) zd220_84 zxt217 rfl ⟨rfl, rfl, rfl, by omega, by omega⟩ (fun r84 F84 G84 hq84 => ?_)
        obtain ⟨rfl, rfl, rfl⟩ := hq84
        refine zn_con hB zd220_87 rfl ?_
        refine zn_cne hB zd220_89 rfl (fun h89 => ?_) (fun h89 => ?_)
        · refine zn_ald hB zd220_138 rfl rfl rfl ?_
          refine zn_ild hB zd220_139 rfl rfl ?_
          refine zn_iv1 hB (zh230 (w := w1) (wt := wt1)) zd220_140 zxt230 rfl ⟨rfl, rfl, rfl, by omega, by omega, hnn⟩ (fun r140 F140 G140 hq140 => ?_)
          obtain ⟨rfl, rfl, ho⟩ := hq140
          rcases ho with ⟨rfl, j, j1, j2, j3⟩ | ⟨rfl, hno⟩
          · refine zn_zeq hB zd220_143 rfl (fun h143 => ?_) (fun h143 => ?_)
            · exfalso; omega
            · refine zn_ald hB zd220_146 rfl rfl rfl ?_
              refine zn_con hB zd220_147 rfl ?_
              refine zn_ald hB zd220_148 rfl rfl rfl ?_
              refine zn_getf hB zd220_149 rfl rfl (fun q149 r149 => ?_)
              refine zn_iv2 hB zh219 zd220_152 zxt219 rfl ⟨rfl, rfl⟩ (fun r152 F152 G152 hq152 => ?_)
              obtain ⟨rfl, fl1, rfl, rfl⟩ := hq152
              exact hret _ _ _ _ _ zd220_155 (by constructor <;> decide) (Or.inl ⟨rfl, _, _, _, _, _, _, _, _, rfl, rfl⟩)
          · refine zn_zeq hB zd220_143 rfl (fun h143 => ?_) (fun h143 => ?_)
            · refine zn_ald hB zd220_156 rfl rfl rfl ?_
              refine zn_con hB zd220_157 rfl ?_
              refine zn_iv1 hB (zh228 (D := D1) (said := said1) (w := w1) (cm := cm1) (wt := wt1) (d := d1) (pl := pl1)) zd220_158 zxt228 rfl ⟨rfl, rfl, rfl, h1, zp_b_run hb hl a8 a2⟩ (fun r158 F158 G158 hq158 => ?_)
              obtain ⟨rfl, D2, said2, cm2, wt2, d2, rfl, rfl, k1, k2⟩ := hq158
              have hs2 := k1.1
              have hb2 := zp_b_cs hb hl hs2.1.2.1 k1
              obtain ⟨c1, c2, c3, c4, c5, c6, c7, c8⟩ := hs2.1
              have hpn2 := zp_pn_nn (w := w1) (a := wt2)
              have k3 := k1.2.2.2.2.2.2.1
              have k4 := k1.2.2.2.1
              have k5 := k1.2.2.1
              have k6 := hb2.2.2.1
              have hg5 : cm2 + wt2 = cm1 + wt1 := k1.2.2.2.2.2.2.2
              refine zn_con hB zd220_161 rfl ?_
              have ew : wt2 = wt := by
                rcases Int.lt_or_le wt wt2 with q | q
                · exfalso
                  rcases k2 (by omega) with q3 | q3
                  · omega
                  · rcases hb2.2.2.2.2.1 (wt2 - 1) (by omega) (by omega) with q4 | q4
                    · exact q3 q4
                    · exact hno (wt2 - 1) (by omega) (by omega) q4
                · omega
              have e3 : zp_pn w1 wt = zp_pn w wt := zp_pn_cg fun k _ k2 => hb.2.2.2.1 k k2
              have e4 := hb2.2.2.2.2.2.1
              rw [ew] at e4 hs2 k3 k4 hpn2
              have e5 : d2 = d + 1 := by omega
              rw [e5] at hs2
              refine hret _ _ _ _ _ zd220_162 (by constructor <;> decide) (Or.inr ⟨rfl, D2, said2, w1, pl1, op1, cm2, nb1, by rw [ew], rfl, hs2, hb2.1, hb2.2.1, hb2.2.2.2.1, hb2.2.2.2.2.2.2, ?_⟩)
              have := k1.2.2.2.2.1
              omega
            · exfalso; omega
        · have hlt := zp_h_lt (tape := tape) (pl := pl1) (len := len) (by omega)
          refine zn_ald hB zd220_92 rfl rfl rfl ?_
          refine zn_ild hB zd220_93 rfl rfl ?_
          refine zn_iv1 hB (zh230 (w := w1) (wt := wt1)) zd220_94 zxt230 rfl ⟨rfl, rfl, rfl, by omega, by omega, hnn⟩ (fun r94 F94 G94 hq94 => ?_)
          obtain ⟨rfl, rfl, ho⟩ := hq94
          rcases ho with ⟨rfl, j, j1, j2, j3⟩ | ⟨rfl, hno⟩
          · refine zn_zeq hB zd220_97 rfl (fun h97 => ?_) (fun h97 => ?_)
            · exfalso; omega
            · refine zn_ald hB zd220_100 rfl rfl rfl ?_
              refine zn_con hB zd220_101 rfl ?_
              refine zn_iv1 hB (zh228 (D := D1) (said := said1) (w := w1) (cm := cm1) (wt := wt1) (d := d1) (pl := pl1)) zd220_102 zxt228 rfl ⟨rfl, rfl, rfl, h1, zp_b_run hb hl a8 a2⟩ (fun r102 F102 G102 hq102 => ?_)
              obtain ⟨rfl, D2, said2, cm2, wt2, d2, rfl, rfl, k1, k2⟩ := hq102
              have hs2 := k1.1
              have hb2 := zp_b_cs hb hl hs2.1.2.1 k1
              obtain ⟨c1, c2, c3, c4, c5, c6, c7, c8⟩ := hs2.1
              have hpn2 := zp_pn_nn (w := w1) (a := wt2)
              have k3 := k1.2.2.2.2.2.2.1
              have k4 := k1.2.2.2.1
              have k5 := k1.2.2.1
              have k6 := hb2.2.2.1
              have hg5 : cm2 + wt2 = cm1 + wt1 := k1.2.2.2.2.2.2.2
              have jw : j < wt2 := by
                rcases Int.lt_or_le j wt2 with q | q
                · exact q
                · have := k1.2.2.2.2.2.1 j q j2
                  omega
              have top : w1 (wt2 - 1) / 1048576 = 14 := by
                rcases k2 (by omega) with q | q
                · omega
                · rcases hb2.2.2.2.2.1 (wt2 - 1) (by omega) (by omega) with q2 | q2
                  · exact absurd q2 q
                  · exact q2
              have hpop := zp_pop hs2 (by omega) (by omega)
              have hpe := hpop.2
              rw [if_neg (by omega)] at hpe
              refine zn_ald hB zd220_105 rfl rfl rfl ?_
              refine zn_ald hB zd220_106 rfl rfl rfl ?_
              refine zn_getf hB zd220_107 rfl rfl (fun q107 r107 => ?_)
              refine zn_con hB zd220_110 rfl ?_
              refine zn_isub hB zd220_111 (by omega) (by omega) ?_
              refine zn_putf hB zd220_112 rfl rfl (fun h => by cases h) rfl ?_
              refine zn_ald hB zd220_115 rfl rfl rfl ?_
              refine zn_ald hB zd220_116 rfl rfl rfl ?_
              refine zn_getf hB zd220_117 rfl rfl (fun q117 r117 => ?_)
              refine zn_con hB zd220_120 rfl ?_
              refine zn_any hB zd220_121 rfl (fun v121 q121 r121 => ?_)
              refine zn_putf hB zd220_122 rfl rfl (fun h => by cases h) rfl ?_
              refine zn_ald hB zd220_125 rfl rfl rfl ?_
              refine zn_ald hB zd220_126 rfl rfl rfl ?_
              refine zn_getf hB zd220_127 rfl rfl (fun q127 r127 => ?_)
              refine zn_con hB zd220_130 rfl ?_
              refine zn_iadd hB zd220_131 (by omega) (by omega) ?_
              refine zn_putf hB zd220_132 rfl rfl (fun h => by cases h) rfl ?_
              refine zn_goto hB zd220_135 rfl ?_
              refine zn_goto hB zd220_163 rfl ?_
              exact ih _ _ _ _ _ _ _ _ _ _ (zp_on hpop.1 (by omega) (by omega)) (zp_b_close hb2 (by omega) a2 top) (by omega) (by omega)
          · refine zn_zeq hB zd220_97 rfl (fun h97 => ?_) (fun h97 => ?_)
            · refine zn_ald hB zd220_138 rfl rfl rfl ?_
              refine zn_ild hB zd220_139 rfl rfl ?_
              refine zn_iv1 hB (zh230 (w := w1) (wt := wt1)) zd220_140 zxt230 rfl ⟨rfl, rfl, rfl, by omega, by omega, hnn⟩ (fun r140 F140 G140 hq140 => ?_)
              obtain ⟨rfl, rfl, ho⟩ := hq140
              rcases ho with ⟨rfl, j, j1, j2, j3⟩ | ⟨rfl, hno⟩
              · refine zn_zeq hB zd220_143 rfl (fun h143 => ?_) (fun h143 => ?_)
                · exfalso; omega
                · refine zn_ald hB zd220_146 rfl rfl rfl ?_
                  refine zn_con hB zd220_147 rfl ?_
                  refine zn_ald hB zd220_148 rfl rfl rfl ?_
                  refine zn_getf hB zd220_149 rfl rfl (fun q149 r149 => ?_)
                  refine zn_iv2 hB zh219 zd220_152 zxt219 rfl ⟨rfl, rfl⟩ (fun r152 F152 G152 hq152 => ?_)
                  obtain ⟨rfl, fl1, rfl, rfl⟩ := hq152
                  exact hret _ _ _ _ _ zd220_155 (by constructor <;> decide) (Or.inl ⟨rfl, _, _, _, _, _, _, _, _, rfl, rfl⟩)
              · refine zn_zeq hB zd220_143 rfl (fun h143 => ?_) (fun h143 => ?_)
                · refine zn_ald hB zd220_156 rfl rfl rfl ?_
                  refine zn_con hB zd220_157 rfl ?_
                  refine zn_iv1 hB (zh228 (D := D1) (said := said1) (w := w1) (cm := cm1) (wt := wt1) (d := d1) (pl := pl1)) zd220_158 zxt228 rfl ⟨rfl, rfl, rfl, h1, zp_b_run hb hl a8 a2⟩ (fun r158 F158 G158 hq158 => ?_)
                  obtain ⟨rfl, D2, said2, cm2, wt2, d2, rfl, rfl, k1, k2⟩ := hq158
                  have hs2 := k1.1
                  have hb2 := zp_b_cs hb hl hs2.1.2.1 k1
                  obtain ⟨c1, c2, c3, c4, c5, c6, c7, c8⟩ := hs2.1
                  have hpn2 := zp_pn_nn (w := w1) (a := wt2)
                  have k3 := k1.2.2.2.2.2.2.1
                  have k4 := k1.2.2.2.1
                  have k5 := k1.2.2.1
                  have k6 := hb2.2.2.1
                  have hg5 : cm2 + wt2 = cm1 + wt1 := k1.2.2.2.2.2.2.2
                  refine zn_con hB zd220_161 rfl ?_
                  have ew : wt2 = wt := by
                    rcases Int.lt_or_le wt wt2 with q | q
                    · exfalso
                      rcases k2 (by omega) with q3 | q3
                      · omega
                      · rcases hb2.2.2.2.2.1 (wt2 - 1) (by omega) (by omega) with q4 | q4
                        · exact q3 q4
                        · exact hno (wt2 - 1) (by omega) (by omega) q4
                    · omega
                  have e3 : zp_pn w1 wt = zp_pn w wt := zp_pn_cg fun k _ k2 => hb.2.2.2.1 k k2
                  have e4 := hb2.2.2.2.2.2.1
                  rw [ew] at e4 hs2 k3 k4 hpn2
                  have e5 : d2 = d + 1 := by omega
                  rw [e5] at hs2
                  refine hret _ _ _ _ _ zd220_162 (by constructor <;> decide) (Or.inr ⟨rfl, D2, said2, w1, pl1, op1, cm2, nb1, by rw [ew], rfl, hs2, hb2.1, hb2.2.1, hb2.2.2.2.1, hb2.2.2.2.2.2.2, ?_⟩)
                  have := k1.2.2.2.2.1
                  omega
                · exfalso; omega
            · exfalso; omega
      · have hlt := zp_h_lt (tape := tape) (pl := pl1) (len := len) (by omega)
        have hs26 : 2 ≤ s ∧ s ≤ 6 := by omega
        refine zn_ald hB zd220_27 rfl rfl rfl ?_
        refine zn_ild hB zd220_28 rfl rfl ?_
        refine zn_con hB zd220_29 rfl ?_
        refine zn_cge hB zd220_30 rfl (fun h30 => ?_) (fun h30 => ?_)
        · refine zn_con hB zd220_37 rfl ?_
          refine zn_iv1 hB (zh228 (D := D1) (said := said1) (w := w1) (cm := cm1) (wt := wt1) (d := d1) (pl := pl1)) zd220_38 zxt228 rfl ⟨rfl, rfl, rfl, h1, zp_b_run hb hl a8 a2⟩ (fun r38 F38 G38 hq38 => ?_)
          obtain ⟨rfl, D2, said2, cm2, wt2, d2, rfl, rfl, k1, k2⟩ := hq38
          have hs2 := k1.1
          have hb2 := zp_b_cs hb hl hs2.1.2.1 k1
          obtain ⟨c1, c2, c3, c4, c5, c6, c7, c8⟩ := hs2.1
          have hpn2 := zp_pn_nn (w := w1) (a := wt2)
          have k3 := k1.2.2.2.2.2.2.1
          have k4 := k1.2.2.2.1
          have k5 := k1.2.2.1
          have k6 := hb2.2.2.1
          have hg5 : cm2 + wt2 = cm1 + wt1 := k1.2.2.2.2.2.2.2
          have hpush := zp_push (pl2 := pl1 + 1) (x := 1048576 * s) hs2 (by omega) (by rw [if_pos (by omega)]; omega)
          refine zn_ald hB zd220_41 rfl rfl rfl ?_
          refine zn_getr hB zd220_42 rfl ?_
          refine zn_ald hB zd220_45 rfl rfl rfl ?_
          refine zn_getf hB zd220_46 rfl rfl (fun q46 r46 => ?_)
          refine zn_con (n := 1048576) hB zd220_49 (by decide +kernel) ?_
          refine zn_ild hB zd220_51 rfl rfl ?_
          refine zn_imul hB zd220_52 (by omega) (by omega) ?_
          refine zn_iast hB zd220_53 rfl rfl (by omega) (by omega) ?_
          refine zn_ald hB zd220_54 rfl rfl rfl ?_
          refine zn_ald hB zd220_55 rfl rfl rfl ?_
          refine zn_getf hB zd220_56 rfl rfl (fun q56 r56 => ?_)
          refine zn_con hB zd220_59 rfl ?_
          refine zn_iadd hB zd220_60 (by omega) (by omega) ?_
          refine zn_putf hB zd220_61 rfl rfl (fun h => by cases h) rfl ?_
          refine zn_ald hB zd220_64 rfl rfl rfl ?_
          refine zn_ald hB zd220_65 rfl rfl rfl ?_
          refine zn_getf hB zd220_66 rfl rfl (fun q66 r66 => ?_)
          refine zn_con hB zd220_69 rfl ?_
          refine zn_iadd hB zd220_70 (by omega) (by omega) ?_
          refine zn_putf hB zd220_71 rfl rfl (fun h => by cases h) rfl ?_
          refine zn_ald hB zd220_74 rfl rfl rfl ?_
          refine zn_iv0 hB (zh221 (D := D2) (said := said2) (w := zn_up w1 wt2 (1048576 * s)) (pl := pl1 + 1) (cm := cm2) (wt := wt2 + 1) (d := d2) (len := len) (e0 := e0)) zd220_75 zxt221 rfl ⟨rfl, rfl, rfl, hpush⟩ (fun r75 F75 G75 hq75 => ?_)
          rcases hq75 with ⟨rfl, p0, f0, o0, c0, w0, n0, s0, t0, rfl, rfl⟩ | ⟨rfl, D3, said3, w3, pl3, op3, cm3, wt3, nb3, rfl, rfl, f1, f2, f3, f4⟩
          · refine zn_zne hB zd220_78 rfl (fun h78 => ?_) (fun h78 => ?_)
            · exfalso; omega
            · refine zn_con hB zd220_81 rfl ?_
              exact hret _ _ _ _ _ zd220_82 (by constructor <;> decide) (Or.inl ⟨rfl, _, _, _, _, _, _, _, _, rfl, rfl⟩)
          · refine zn_zne hB zd220_78 rfl (fun h78 => ?_) (fun h78 => ?_)
            · have hg3 : cm3 + zp_pn w3 wt3 - cm - zp_pn w wt ≤ pl3 - pl := by
                have q := f3.1
                have e1 : zp_pn (zn_up w1 wt2 (1048576 * s)) (wt2 + 1) = zp_pn w1 wt2 + 1 := by
                  rw [zp_pn_s c2, zp_pn_up (Int.le_refl _), zn_up_s, if_pos (by omega)]
                have q3 := f4
                have q4 := k1.2.2.2.2.1
                have q5 := hg5
                omega
              refine zn_goto hB zd220_163 rfl ?_
              exact ih _ _ _ _ _ _ _ _ _ _ f3 (zp_b_sign hb2 (by omega) hs26 a2 f1) hg3 (by have := f3.1; omega)
            · exfalso; omega
        · refine zn_con hB zd220_33 rfl ?_
          refine zn_goto hB zd220_34 rfl ?_
          refine zn_iv1 hB (zh228 (D := D1) (said := said1) (w := w1) (cm := cm1) (wt := wt1) (d := d1) (pl := pl1)) zd220_38 zxt228 rfl ⟨rfl, rfl, rfl, h1, zp_b_run hb hl a8 a2⟩ (fun r38 F38 G38 hq38 => ?_)
          obtain ⟨rfl, D2, said2, cm2, wt2, d2, rfl, rfl, k1, k2⟩ := hq38
          have hs2 := k1.1
          have hb2 := zp_b_cs hb hl hs2.1.2.1 k1
          obtain ⟨c1, c2, c3, c4, c5, c6, c7, c8⟩ := hs2.1
          have hpn2 := zp_pn_nn (w := w1) (a := wt2)
          have k3 := k1.2.2.2.2.2.2.1
          have k4 := k1.2.2.2.1
          have k5 := k1.2.2.1
          have k6 := hb2.2.2.1
          have hg5 : cm2 + wt2 = cm1 + wt1 := k1.2.2.2.2.2.2.2
          have hpush := zp_push (pl2 := pl1 + 1) (x := 1048576 * s) hs2 (by omega) (by rw [if_pos (by omega)]; omega)
          refine zn_ald hB zd220_41 rfl rfl rfl ?_
          refine zn_getr hB zd220_42 rfl ?_
          refine zn_ald hB zd220_45 rfl rfl rfl ?_
          refine zn_getf hB zd220_46 rfl rfl (fun q46 r46 => ?_)
          refine zn_con (n := 1048576) hB zd220_49 (by decide +kernel) ?_
          refine zn_ild hB zd220_51 rfl rfl ?_
          refine zn_imul hB zd220_52 (by omega) (by omega) ?_
          refine zn_iast hB zd220_53 rfl rfl (by omega) (by omega) ?_
          refine zn_ald hB zd220_54 rfl rfl rfl ?_
          refine zn_ald hB zd220_55 rfl rfl rfl ?_
          refine zn_getf hB zd220_56 rfl rfl (fun q56 r56 => ?_)
          refine zn_con hB zd220_59 rfl ?_
          refine zn_iadd hB zd220_60 (by omega) (by omega) ?_
          refine zn_putf hB zd220_61 rfl rfl (fun h => by cases h) rfl ?_
          refine zn_ald hB zd220_64 rfl rfl rfl ?_
          refine zn_ald hB zd220_65 rfl rfl rfl ?_
          refine zn_getf hB zd220_66 rfl rfl (fun q66 r66 => ?_)
          refine zn_con hB zd220_69 rfl ?_
          refine zn_iadd hB zd220_70 (by omega) (by omega) ?_
          refine zn_putf hB zd220_71 rfl rfl (fun h => by cases h) rfl ?_
          refine zn_ald hB zd220_74 rfl rfl rfl ?_
          refine zn_iv0 hB (zh221 (D := D2) (said := said2) (w := zn_up w1 wt2 (1048576 * s)) (pl := pl1 + 1) (cm := cm2) (wt := wt2 + 1) (d := d2) (len := len) (e0 := e0)) zd220_75 zxt221 rfl ⟨rfl, rfl, rfl, hpush⟩ (fun r75 F75 G75 hq75 => ?_)
          rcases hq75 with ⟨rfl, p0, f0, o0, c0, w0, n0, s0, t0, rfl, rfl⟩ | ⟨rfl, D3, said3, w3, pl3, op3, cm3, wt3, nb3, rfl, rfl, f1, f2, f3, f4⟩
          · refine zn_zne hB zd220_78 rfl (fun h78 => ?_) (fun h78 => ?_)
            · exfalso; omega
            · refine zn_con hB zd220_81 rfl ?_
              exact hret _ _ _ _ _ zd220_82 (by constructor <;> decide) (Or.inl ⟨rfl, _, _, _, _, _, _, _, _, rfl, rfl⟩)
          · refine zn_zne hB zd220_78 rfl (fun h78 => ?_) (fun h78 => ?_)
            · have hg3 : cm3 + zp_pn w3 wt3 - cm - zp_pn w wt ≤ pl3 - pl := by
                have q := f3.1
                have e1 : zp_pn (zn_up w1 wt2 (1048576 * s)) (wt2 + 1) = zp_pn w1 wt2 + 1 := by
                  rw [zp_pn_s c2, zp_pn_up (Int.le_refl _), zn_up_s, if_pos (by omega)]
                have q3 := f4
                have q4 := k1.2.2.2.2.1
                have q5 := hg5
                omega
              refine zn_goto hB zd220_163 rfl ?_
              exact ih _ _ _ _ _ _ _ _ _ _ f3 (zp_b_sign hb2 (by omega) hs26 a2 f1) hg3 (by have := f3.1; omega)
            · exfalso; omega
  refine zn_ald hB zd220_0 rfl rfl rfl ?_
  refine zn_getf hB zd220_1 rfl rfl (fun q1 r1 => ?_)
  refine zn_ist hB zd220_4 rfl rfl rfl ?_
  refine zn_ald hB zd220_5 rfl rfl rfl ?_
  refine zn_iv0 hB (zh221 (D := D) (said := said) (w := w) (pl := pl) (cm := cm) (wt := wt) (d := d) (len := len) (e0 := e0)) zd220_6 zxt221 rfl ⟨rfl, rfl, rfl, hs⟩ (fun r6 F6 G6 hq6 => ?_)
  rcases hq6 with ⟨rfl, p0, f0, o0, c0, w0, n0, s0, t0, rfl, rfl⟩ | ⟨rfl, D3, said3, w3, pl3, op3, cm3, wt3, nb3, rfl, rfl, f1, f2, f3, f4⟩
  · refine zn_zne hB zd220_9 rfl (fun h9 => ?_) (fun h9 => ?_)
    · exfalso; omega
    · refine zn_con hB zd220_12 rfl ?_
      exact hret _ _ _ _ _ zd220_13 (by constructor <;> decide) (Or.inl ⟨rfl, _, _, _, _, _, _, _, _, rfl, rfl⟩)
  · refine zn_zne hB zd220_9 rfl (fun h9 => ?_) (fun h9 => ?_)
    · obtain ⟨x1, x2, x3, x4, x5, x6, x7⟩ := f1
      exact key ((len - pl3).toNat + 1) _ _ _ _ _ _ _ _ _ _ f3 ⟨x1, x2, x3, x4, fun j j1 j2 => Or.inr (x5 j j1 j2), by omega, f2⟩ (by omega) (by omega)
    · exfalso; omega
end ZREAD3
end
section
/-! The reading of laws: conditions. -/
theorem zp_we {e0 : Nat} {D said w : Int → Int} {pl len cm wt d : Int} (h : zp_s (e0 + 1) D said w pl len cm wt d) : zp_s e0 D said w pl len cm wt d := by
  obtain ⟨⟨a1, a2, a3, a4, a5, a6, a7, a8⟩, h9, h10⟩ := h
  exact ⟨⟨a1, a2, a3, a4, a5, by omega, a7, a8⟩, h9, h10⟩
theorem zp_on1 {e0 : Nat} {D said w : Int → Int} {pl len cm wt d : Int} (h : zp_s e0 D said w pl len cm wt d) (h1 : pl < len) : zp_s (e0 + 1) D said w (pl + 1) len cm wt d := by
  obtain ⟨⟨a1, a2, a3, a4, a5, a6, a7, a8⟩, h9, h10⟩ := h
  exact ⟨⟨a1, a2, by omega, by omega, a5, by omega, a7, a8⟩, h9, h10⟩
theorem zp_low0_cg {w w' : Int → Int} {wt : Int} (h : zp_low0 w wt) (h0 : 0 ≤ wt) (k : ∀ j, j < wt → w' j = w j) : zp_low0 w' wt := by
  rcases h with h | h
  · exact Or.inl h
  · refine Or.inr ?_
    rw [k (wt - 1) (by omega)]
    exact h
/-- what waits while a condition is read -/
def zp_cd (w : Int → Int) (wt : Int) : Prop := 1 ≤ wt ∧ w 0 / 1048576 = 13 ∧ ∀ j, 0 ≤ j → j < wt → 10 ≤ w j / 1048576
theorem zp_cd_low {w : Int → Int} {wt : Int} (h : zp_cd w wt) : zp_low0 w wt := by
  refine Or.inr fun q => ?_
  have := h.2.2 (wt - 1) (by have := h.1; omega) (by omega)
  omega
theorem zp_cd_cut {w w' : Int → Int} {wt wt' : Int} (h : zp_cd w wt) (h0 : 0 ≤ wt') (h1 : wt' ≤ wt) (hk : ∀ j, j < wt' → w' j = w j) (hp : ∀ i, wt' ≤ i → i < wt → w i / 1048576 ≠ 13) : zp_cd w' wt' := by
  have h2 : 1 ≤ wt' := by
    rcases Int.lt_or_le 0 wt' with q | q
    · omega
    · exact absurd h.2.1 (hp 0 q (by have := h.1; omega))
  exact ⟨h2, by rw [hk 0 (by omega)]; exact h.2.1, fun j j1 j2 => by rw [hk j j2]; exact h.2.2 j j1 (by omega)⟩
theorem zp_cd_up {w : Int → Int} {wt x : Int} (h : zp_cd w wt) (hx : 10 ≤ x / 1048576) : zp_cd (zn_up w wt x) (wt + 1) := by
  have h1 := h.1
  refine ⟨by omega, by rw [zn_up_n (by omega)]; exact h.2.1, fun j j1 j2 => ?_⟩
  by_cases e : j = wt
  · subst e; rw [zn_up_s]; exact hx
  · rw [zn_up_n e]; exact h.2.2 j j1 (by omega)
theorem zp_l_st {e0 : Nat} {D w : Int → Int} {pl len cm wt d : Int} (h0 : 0 < wt) (hx : w (wt - 1) / 1048576 = 11 ∨ w (wt - 1) / 1048576 = 12) :
    ∀ said' wt', zp_l e0 D w pl len cm (wt - 1) d said' wt' → zp_l e0 D w pl len cm wt d said' wt' := by
  intro said' wt' ⟨a1, a2, a3⟩
  refine ⟨a1, by omega, fun i i1 i2 => ?_⟩
  by_cases e : i = wt - 1
  · rw [e]; exact hx
  · exact a3 i i1 (by omega)
section ZREAD4
variable {e0 : Nat} {pl len fl op cm wt nb d : Int} {tape said w D : Int → Int} {Fr : List Int} {Gr : List (Int → Int)}
theorem zd233_0 : decode zxm233.2.1 0 = .ok (.aload_n 0, 1) := by decide +kernel
theorem zd233_1 : decode zxm233.2.1 1 = .ok (.invokevirtual 209, 3) := by decide +kernel
theorem zd233_4 : decode zxm233.2.1 4 = .ok (.bipush 10, 2) := by decide +kernel
theorem zd233_6 : decode zxm233.2.1 6 = .ok (.if_icmp .ne 33, 3) := by decide +kernel
theorem zd233_9 : decode zxm233.2.1 9 = .ok (.aload_n 0, 1) := by decide +kernel
theorem zd233_10 : decode zxm233.2.1 10 = .ok (.bipush 10, 2) := by decide +kernel
theorem zd233_12 : decode zxm233.2.1 12 = .ok (.iconst 0, 1) := by decide +kernel
theorem zd233_13 : decode zxm233.2.1 13 = .ok (.invokevirtual 212, 3) := by decide +kernel
theorem zd233_16 : decode zxm233.2.1 16 = .ok (.aload_n 0, 1) := by decide +kernel
theorem zd233_17 : decode zxm233.2.1 17 = .ok (.aload_n 0, 1) := by decide +kernel
theorem zd233_18 : decode zxm233.2.1 18 = .ok (.getfield 206, 3) := by decide +kernel
theorem zd233_21 : decode zxm233.2.1 21 = .ok (.iconst 1, 1) := by decide +kernel
theorem zd233_22 : decode zxm233.2.1 22 = .ok (.isub, 1) := by decide +kernel
theorem zd233_23 : decode zxm233.2.1 23 = .ok (.putfield 206, 3) := by decide +kernel
theorem zd233_26 : decode zxm233.2.1 26 = .ok (.aload_n 0, 1) := by decide +kernel
theorem zd233_27 : decode zxm233.2.1 27 = .ok (.aload_n 0, 1) := by decide +kernel
theorem zd233_28 : decode zxm233.2.1 28 = .ok (.getfield 203, 3) := by decide +kernel
theorem zd233_31 : decode zxm233.2.1 31 = .ok (.iconst 1, 1) := by decide +kernel
theorem zd233_32 : decode zxm233.2.1 32 = .ok (.isub, 1) := by decide +kernel
theorem zd233_33 : decode zxm233.2.1 33 = .ok (.putfield 203, 3) := by decide +kernel
theorem zd233_36 : decode zxm233.2.1 36 = .ok (.goto (-36), 3) := by decide +kernel
theorem zd233_39 : decode zxm233.2.1 39 = .ok (.return_, 1) := by decide +kernel
theorem zh233  : zn_OK z_TB z_cl z_KX zyM zxm233 (1, 60) (fun va F G => va = [.inr 0] ∧ F = pl :: len :: fl :: op :: cm :: wt :: Fr ∧ G = tape :: said :: w :: Gr ∧ zp_s e0 D said w pl len cm wt d ∧ 1 ≤ d) (fun va F G r F' G' => r = none ∧ ∃ D' said' op' cm' wt', F' = pl :: len :: fl :: op' :: cm' :: wt' :: Fr ∧ G' = tape :: said' :: w :: Gr ∧ zp_e e0 D w pl len cm wt d D' said' cm' wt') := zn_meth (K := zkM) (FT := z_FT) (MT := z_MT) (n := 1) zxp233 (z_ks13 _ (fun _ h => List.mem_cons_of_mem _ h) _ _ _ _ (fun j r h _ => by cases h)) (fun _ _ => zs_K_p) (by decide +kernel) (fun va F G h => by obtain ⟨rfl, _⟩ := h; rfl) rfl fun good va F G hB hret hvret hP => by
  obtain ⟨rfl, rfl, rfl, hs, hd⟩ := hP
  have key : ∀ (n : Nat) (D said : Int → Int) (op cm wt : Int), zp_s e0 D said w pl len cm wt d → wt < n → (∀ D' said' op' cm' wt', zp_e e0 D w pl len cm wt d D' said' cm' wt' → good 39 [.inr 0] [] (pl :: len :: fl :: op' :: cm' :: wt' :: Fr) (tape :: said' :: w :: Gr)) → good 0 [.inr 0] [] (pl :: len :: fl :: op :: cm :: wt :: Fr) (tape :: said :: w :: Gr) := by
    intro n
    induction n with
    | zero => exact fun D said op cm wt hs hn => absurd hs.1.2.1 (by omega)
    | succ n ih =>
      intro D said op cm wt hs hn fin
      obtain ⟨a1, a2, a3, a4, a5, a6, a7, a8⟩ := hs.1
      have hw : 0 < wt → 0 ≤ w (wt - 1) := fun h => (hs.2.2 (wt - 1) (by omega) (by omega)).1
      have hpn := zp_pn_nn (w := w) (a := wt)
      refine zn_ald hB zd233_0 rfl rfl rfl ?_
      refine zn_iv0 hB (zh229 (pl := pl) (wt := wt) (w := w)) zd233_1 zxt229 rfl ⟨rfl, rfl, rfl, by omega, by omega, hw⟩ (fun r1 F1 G1 hq1 => ?_)
      obtain ⟨rfl, rfl, rfl⟩ := hq1
      refine zn_con hB zd233_4 rfl ?_
      refine zn_cne hB zd233_6 rfl (fun h6 => ?_) (fun h6 => ?_)
      · exact fin _ _ _ _ _ (zp_e_rf hs)
      · obtain ⟨t3, t4⟩ := zp_t_pos (w := w) (wt := wt) (by omega)
        have g := zp_e_st hs (by omega) (by omega) hd
        refine zn_ald hB zd233_9 rfl rfl rfl ?_
        refine zn_con hB zd233_10 rfl ?_
        refine zn_con hB zd233_12 rfl ?_
        refine zn_iv2 hB (zh225 (cm := cm) (said := said)) zd233_13 zxt225 rfl ⟨rfl, rfl, rfl, by omega, by omega, by omega, by omega, by omega, by omega⟩ (fun r13 F13 G13 hq13 => ?_)
        obtain ⟨rfl, rfl, rfl⟩ := hq13
        refine zn_ald hB zd233_16 rfl rfl rfl ?_
        refine zn_ald hB zd233_17 rfl rfl rfl ?_
        refine zn_getf hB zd233_18 rfl rfl (fun q18 r18 => ?_)
        refine zn_con hB zd233_21 rfl ?_
        refine zn_isub hB zd233_22 (by omega) (by omega) ?_
        refine zn_putf hB zd233_23 rfl rfl (fun h => by cases h) rfl ?_
        refine zn_ald hB zd233_26 rfl rfl rfl ?_
        refine zn_ald hB zd233_27 rfl rfl rfl ?_
        refine zn_getf hB zd233_28 rfl rfl (fun q28 r28 => ?_)
        refine zn_con hB zd233_31 rfl ?_
        refine zn_any hB zd233_32 rfl (fun v32 q32 r32 => ?_)
        refine zn_putf hB zd233_33 rfl rfl (fun h => by cases h) rfl ?_
        refine zn_goto hB zd233_36 rfl ?_
        exact ih _ _ _ _ _ g.1 (by omega) (fun D' said' op' cm' wt' e1 => fin D' said' op' cm' wt' (g.2 D' said' cm' wt' e1))
  refine key (wt.toNat + 1) D said op cm wt hs (by have := hs.1.2.1; omega) (fun D' said' op' cm' wt' e1 => ?_)
  exact hvret _ _ _ _ zd233_39 trivial ⟨rfl, D', said', op', cm', wt', rfl, rfl, e1⟩
theorem zd234_0 : decode zxm234.2.1 0 = .ok (.aload_n 0, 1) := by decide +kernel
theorem zd234_1 : decode zxm234.2.1 1 = .ok (.invokevirtual 209, 3) := by decide +kernel
theorem zd234_4 : decode zxm234.2.1 4 = .ok (.bipush 11, 2) := by decide +kernel
theorem zd234_6 : decode zxm234.2.1 6 = .ok (.if_icmp .eq 16, 3) := by decide +kernel
theorem zd234_9 : decode zxm234.2.1 9 = .ok (.iload_n 1, 1) := by decide +kernel
theorem zd234_10 : decode zxm234.2.1 10 = .ok (.ifCond .eq 63, 3) := by decide +kernel
theorem zd234_13 : decode zxm234.2.1 13 = .ok (.aload_n 0, 1) := by decide +kernel
theorem zd234_14 : decode zxm234.2.1 14 = .ok (.invokevirtual 209, 3) := by decide +kernel
theorem zd234_17 : decode zxm234.2.1 17 = .ok (.bipush 12, 2) := by decide +kernel
theorem zd234_19 : decode zxm234.2.1 19 = .ok (.if_icmp .ne 54, 3) := by decide +kernel
theorem zd234_22 : decode zxm234.2.1 22 = .ok (.aload_n 0, 1) := by decide +kernel
theorem zd234_23 : decode zxm234.2.1 23 = .ok (.getfield 26, 3) := by decide +kernel
theorem zd234_26 : decode zxm234.2.1 26 = .ok (.aload_n 0, 1) := by decide +kernel
theorem zd234_27 : decode zxm234.2.1 27 = .ok (.getfield 206, 3) := by decide +kernel
theorem zd234_30 : decode zxm234.2.1 30 = .ok (.iconst 1, 1) := by decide +kernel
theorem zd234_31 : decode zxm234.2.1 31 = .ok (.isub, 1) := by decide +kernel
theorem zd234_32 : decode zxm234.2.1 32 = .ok (.iaload, 1) := by decide +kernel
theorem zd234_33 : decode zxm234.2.1 33 = .ok (.ldc 202, 2) := by decide +kernel
theorem zd234_35 : decode zxm234.2.1 35 = .ok (.irem, 1) := by decide +kernel
theorem zd234_36 : decode zxm234.2.1 36 = .ok (.istore_n 2, 1) := by decide +kernel
theorem zd234_37 : decode zxm234.2.1 37 = .ok (.aload_n 0, 1) := by decide +kernel
theorem zd234_38 : decode zxm234.2.1 38 = .ok (.getfield 23, 3) := by decide +kernel
theorem zd234_41 : decode zxm234.2.1 41 = .ok (.iload_n 2, 1) := by decide +kernel
theorem zd234_42 : decode zxm234.2.1 42 = .ok (.ldc 202, 2) := by decide +kernel
theorem zd234_44 : decode zxm234.2.1 44 = .ok (.aload_n 0, 1) := by decide +kernel
theorem zd234_45 : decode zxm234.2.1 45 = .ok (.getfield 23, 3) := by decide +kernel
theorem zd234_48 : decode zxm234.2.1 48 = .ok (.iload_n 2, 1) := by decide +kernel
theorem zd234_49 : decode zxm234.2.1 49 = .ok (.iaload, 1) := by decide +kernel
theorem zd234_50 : decode zxm234.2.1 50 = .ok (.ldc 202, 2) := by decide +kernel
theorem zd234_52 : decode zxm234.2.1 52 = .ok (.idiv, 1) := by decide +kernel
theorem zd234_53 : decode zxm234.2.1 53 = .ok (.imul, 1) := by decide +kernel
theorem zd234_54 : decode zxm234.2.1 54 = .ok (.aload_n 0, 1) := by decide +kernel
theorem zd234_55 : decode zxm234.2.1 55 = .ok (.getfield 199, 3) := by decide +kernel
theorem zd234_58 : decode zxm234.2.1 58 = .ok (.iadd, 1) := by decide +kernel
theorem zd234_59 : decode zxm234.2.1 59 = .ok (.iastore, 1) := by decide +kernel
theorem zd234_60 : decode zxm234.2.1 60 = .ok (.aload_n 0, 1) := by decide +kernel
theorem zd234_61 : decode zxm234.2.1 61 = .ok (.aload_n 0, 1) := by decide +kernel
theorem zd234_62 : decode zxm234.2.1 62 = .ok (.getfield 206, 3) := by decide +kernel
theorem zd234_65 : decode zxm234.2.1 65 = .ok (.iconst 1, 1) := by decide +kernel
theorem zd234_66 : decode zxm234.2.1 66 = .ok (.isub, 1) := by decide +kernel
theorem zd234_67 : decode zxm234.2.1 67 = .ok (.putfield 206, 3) := by decide +kernel
theorem zd234_70 : decode zxm234.2.1 70 = .ok (.goto (-70), 3) := by decide +kernel
theorem zd234_73 : decode zxm234.2.1 73 = .ok (.return_, 1) := by decide +kernel
theorem zh234 {al : Int} : zn_OK z_TB z_cl z_KX zyM zxm234 (1, 60) (fun va F G => va = [.inr 0, .inl al] ∧ F = pl :: len :: fl :: op :: cm :: wt :: Fr ∧ G = tape :: said :: w :: Gr ∧ zp_s e0 D said w pl len cm wt d ∧ d ≤ 1) (fun va F G r F' G' => r = none ∧ ∃ said' wt', F' = pl :: len :: fl :: op :: cm :: wt' :: Fr ∧ G' = tape :: said' :: w :: Gr ∧ zp_l e0 D w pl len cm wt d said' wt' ∧ (al ≠ 0 → wt' = 0 ∨ ¬ (w (wt' - 1) / 1048576 = 11 ∨ w (wt' - 1) / 1048576 = 12))) := zn_meth (K := zkM) (FT := z_FT) (MT := z_MT) (n := 2) zxp234 (z_ks13 _ (fun _ h => List.mem_cons_of_mem _ h) _ _ _ _ (fun j r h _ => by cases h)) (fun _ _ => zs_K_p) (by decide +kernel) (fun va F G h => by obtain ⟨rfl, _⟩ := h; rfl) rfl fun good va F G hB hret hvret hP => by
  obtain ⟨rfl, rfl, rfl, hs, hd⟩ := hP
  have key : ∀ (n : Nat) (said : Int → Int) (wt : Int) (x : zNV), zp_s e0 D said w pl len cm wt d → wt < n → (∀ said' wt' x, zp_l e0 D w pl len cm wt d said' wt' → (al ≠ 0 → wt' = 0 ∨ ¬ (w (wt' - 1) / 1048576 = 11 ∨ w (wt' - 1) / 1048576 = 12)) → good 73 [.inr 0, .inl al, x] [] (pl :: len :: fl :: op :: cm :: wt' :: Fr) (tape :: said' :: w :: Gr)) → good 0 [.inr 0, .inl al, x] [] (pl :: len :: fl :: op :: cm :: wt :: Fr) (tape :: said :: w :: Gr) := by
    intro n
    induction n with
    | zero => exact fun said wt x hs hn => absurd hs.1.2.1 (by omega)
    | succ n ih =>
      intro said wt x hs hn fin
      obtain ⟨a1, a2, a3, a4, a5, a6, a7, a8⟩ := hs.1
      have hw : 0 < wt → 0 ≤ w (wt - 1) := fun h => (hs.2.2 (wt - 1) (by omega) (by omega)).1
      have hpn := zp_pn_nn (w := w) (a := wt)
      have body : zp_t w wt = 11 ∨ zp_t w wt = 12 → good 22 [.inr 0, .inl al, x] [] (pl :: len :: fl :: op :: cm :: wt :: Fr) (tape :: said :: w :: Gr) := by
        intro t1
        obtain ⟨t3, t4⟩ := zp_t_pos (w := w) (wt := wt) (by omega)
        obtain ⟨⟨g1, g2⟩, g3, g4, g5, g6⟩ := zp_land hs (by omega) (by omega) hd
        have hw1 := hw (by omega)
        refine zn_ald hB zd234_22 rfl rfl rfl ?_
        refine zn_getr hB zd234_23 rfl ?_
        refine zn_ald hB zd234_26 rfl rfl rfl ?_
        refine zn_getf hB zd234_27 rfl rfl (fun q27 r27 => ?_)
        refine zn_con hB zd234_30 rfl ?_
        refine zn_isub hB zd234_31 (by omega) (by omega) ?_
        refine zn_iald hB zd234_32 rfl rfl (by omega) (by omega) (fun q32 r32 => ?_)
        refine zn_con (n := 1048576) hB zd234_33 (by decide +kernel) ?_
        refine zn_irem hB zd234_35 (by omega) (by omega) ?_
        refine zn_ist hB zd234_36 rfl rfl rfl ?_
        refine zn_ald hB zd234_37 rfl rfl rfl ?_
        refine zn_getr hB zd234_38 rfl ?_
        refine zn_ild hB zd234_41 rfl rfl ?_
        refine zn_con (n := 1048576) hB zd234_42 (by decide +kernel) ?_
        refine zn_ald hB zd234_44 rfl rfl rfl ?_
        refine zn_getr hB zd234_45 rfl ?_
        refine zn_ild hB zd234_48 rfl rfl ?_
        refine zn_iald hB zd234_49 rfl rfl (by omega) (by omega) (fun q49 r49 => ?_)
        refine zn_con (n := 1048576) hB zd234_50 (by decide +kernel) ?_
        refine zn_idiv hB zd234_52 (by omega) (by omega) ?_
        refine zn_imul hB zd234_53 (by omega) (by omega) ?_
        refine zn_ald hB zd234_54 rfl rfl rfl ?_
        refine zn_getf hB zd234_55 rfl rfl (fun q55 r55 => ?_)
        refine zn_iadd hB zd234_58 (by omega) (by omega) ?_
        refine zn_iast hB zd234_59 rfl rfl (by omega) (by omega) ?_
        refine zn_ald hB zd234_60 rfl rfl rfl ?_
        refine zn_ald hB zd234_61 rfl rfl rfl ?_
        refine zn_getf hB zd234_62 rfl rfl (fun q62 r62 => ?_)
        refine zn_con hB zd234_65 rfl ?_
        refine zn_isub hB zd234_66 (by omega) (by omega) ?_
        refine zn_putf hB zd234_67 rfl rfl (fun h => by cases h) rfl ?_
        refine zn_goto hB zd234_70 rfl ?_
        exact ih _ _ _ g6 (by omega) (fun said' wt' x e1 e2 => fin said' wt' x (zp_l_st (by omega) (by omega) said' wt' e1) e2)
      refine zn_ald hB zd234_0 rfl rfl rfl ?_
      refine zn_iv0 hB (zh229 (pl := pl) (wt := wt) (w := w)) zd234_1 zxt229 rfl ⟨rfl, rfl, rfl, by omega, by omega, hw⟩ (fun r1 F1 G1 hq1 => ?_)
      obtain ⟨rfl, rfl, rfl⟩ := hq1
      refine zn_con hB zd234_4 rfl ?_
      refine zn_ceq hB zd234_6 rfl (fun h6 => ?_) (fun h6 => ?_)
      · exact body (by omega)
      · refine zn_ild hB zd234_9 rfl rfl ?_
        refine zn_zeq hB zd234_10 rfl (fun h10 => ?_) (fun h10 => ?_)
        · refine fin _ _ _ ⟨hs, Int.le_refl _, fun i h1 h2 => absurd h1 (by omega)⟩ (fun ha => ?_)
          by_cases e : wt = 0
          · exact Or.inl e
          · have := zp_t_ne (w := w) e
            exact Or.inr (by omega)
        · refine zn_ald hB zd234_13 rfl rfl rfl ?_
          refine zn_iv0 hB (zh229 (pl := pl) (wt := wt) (w := w)) zd234_14 zxt229 rfl ⟨rfl, rfl, rfl, by omega, by omega, hw⟩ (fun r14 F14 G14 hq14 => ?_)
          obtain ⟨rfl, rfl, rfl⟩ := hq14
          refine zn_con hB zd234_17 rfl ?_
          refine zn_cne hB zd234_19 rfl (fun h19 => ?_) (fun h19 => ?_)
          · refine fin _ _ _ ⟨hs, Int.le_refl _, fun i h1 h2 => absurd h1 (by omega)⟩ (fun ha => ?_)
            by_cases e : wt = 0
            · exact Or.inl e
            · have := zp_t_ne (w := w) e
              exact Or.inr (by omega)
          · exact body (by omega)
  refine key (wt.toNat + 1) said wt (.inr 1000) hs (by have := hs.1.2.1; omega) (fun said' wt' x e1 e2 => ?_)
  exact hvret _ _ _ _ zd234_73 trivial ⟨rfl, said', wt', rfl, rfl, e1, e2⟩
theorem zd235_0 : decode zxm235.2.1 0 = .ok (.aload_n 0, 1) := by decide +kernel
theorem zd235_1 : decode zxm235.2.1 1 = .ok (.getfield 26, 3) := by decide +kernel
theorem zd235_4 : decode zxm235.2.1 4 = .ok (.aload_n 0, 1) := by decide +kernel
theorem zd235_5 : decode zxm235.2.1 5 = .ok (.getfield 206, 3) := by decide +kernel
theorem zd235_8 : decode zxm235.2.1 8 = .ok (.ldc 202, 2) := by decide +kernel
theorem zd235_10 : decode zxm235.2.1 10 = .ok (.iload_n 1, 1) := by decide +kernel
theorem zd235_11 : decode zxm235.2.1 11 = .ok (.imul, 1) := by decide +kernel
theorem zd235_12 : decode zxm235.2.1 12 = .ok (.aload_n 0, 1) := by decide +kernel
theorem zd235_13 : decode zxm235.2.1 13 = .ok (.getfield 199, 3) := by decide +kernel
theorem zd235_16 : decode zxm235.2.1 16 = .ok (.iadd, 1) := by decide +kernel
theorem zd235_17 : decode zxm235.2.1 17 = .ok (.iastore, 1) := by decide +kernel
theorem zd235_18 : decode zxm235.2.1 18 = .ok (.aload_n 0, 1) := by decide +kernel
theorem zd235_19 : decode zxm235.2.1 19 = .ok (.aload_n 0, 1) := by decide +kernel
theorem zd235_20 : decode zxm235.2.1 20 = .ok (.getfield 206, 3) := by decide +kernel
theorem zd235_23 : decode zxm235.2.1 23 = .ok (.iconst 1, 1) := by decide +kernel
theorem zd235_24 : decode zxm235.2.1 24 = .ok (.iadd, 1) := by decide +kernel
theorem zd235_25 : decode zxm235.2.1 25 = .ok (.putfield 206, 3) := by decide +kernel
theorem zd235_28 : decode zxm235.2.1 28 = .ok (.aload_n 0, 1) := by decide +kernel
theorem zd235_29 : decode zxm235.2.1 29 = .ok (.iload_n 1, 1) := by decide +kernel
theorem zd235_30 : decode zxm235.2.1 30 = .ok (.iconst 0, 1) := by decide +kernel
theorem zd235_31 : decode zxm235.2.1 31 = .ok (.invokevirtual 212, 3) := by decide +kernel
theorem zd235_34 : decode zxm235.2.1 34 = .ok (.aload_n 0, 1) := by decide +kernel
theorem zd235_35 : decode zxm235.2.1 35 = .ok (.aload_n 0, 1) := by decide +kernel
theorem zd235_36 : decode zxm235.2.1 36 = .ok (.getfield 176, 3) := by decide +kernel
theorem zd235_39 : decode zxm235.2.1 39 = .ok (.iconst 1, 1) := by decide +kernel
theorem zd235_40 : decode zxm235.2.1 40 = .ok (.iadd, 1) := by decide +kernel
theorem zd235_41 : decode zxm235.2.1 41 = .ok (.putfield 176, 3) := by decide +kernel
theorem zd235_44 : decode zxm235.2.1 44 = .ok (.return_, 1) := by decide +kernel
theorem zh235 {o : Int} : zn_OK z_TB z_cl z_KX zyM zxm235 (1, 60) (fun va F G => va = [.inr 0, .inl o] ∧ F = pl :: len :: fl :: op :: cm :: wt :: Fr ∧ G = tape :: said :: w :: Gr ∧ 0 ≤ o ∧ o ≤ 14 ∧ 0 ≤ cm ∧ cm < 220 ∧ 0 ≤ wt ∧ wt < 220 ∧ 0 ≤ pl ∧ pl < 220) (fun va F G r F' G' => r = none ∧ F' = (pl + 1) :: len :: fl :: op :: (cm + 1) :: (wt + 1) :: Fr ∧ G' = tape :: zn_up said cm (1048576 * o + 0) :: zn_up w wt (1048576 * o + cm) :: Gr) := zn_meth (K := zkM) (FT := z_FT) (MT := z_MT) (n := 2) zxp235 (z_ks13 _ (fun _ h => List.mem_cons_of_mem _ h) _ _ _ _ (fun j r h _ => by cases h)) (fun _ _ => zs_K_p) (by decide +kernel) (fun va F G h => by obtain ⟨rfl, _⟩ := h; rfl) rfl fun good va F G hB hret hvret hP => by
  obtain ⟨rfl, rfl, rfl, h0, h1, h2, h3, h4, h5, h6, h7⟩ := hP
  refine zn_ald hB zd235_0 rfl rfl rfl ?_
  refine zn_getr hB zd235_1 rfl ?_
  refine zn_ald hB zd235_4 rfl rfl rfl ?_
  refine zn_getf hB zd235_5 rfl rfl (fun q5 r5 => ?_)
  refine zn_con (n := 1048576) hB zd235_8 (by decide +kernel) ?_
  refine zn_ild hB zd235_10 rfl rfl ?_
  refine zn_imul hB zd235_11 (by omega) (by omega) ?_
  refine zn_ald hB zd235_12 rfl rfl rfl ?_
  refine zn_getf hB zd235_13 rfl rfl (fun q13 r13 => ?_)
  refine zn_iadd hB zd235_16 (by omega) (by omega) ?_
  refine zn_iast hB zd235_17 rfl rfl (by omega) (by omega) ?_
  refine zn_ald hB zd235_18 rfl rfl rfl ?_
  refine zn_ald hB zd235_19 rfl rfl rfl ?_
  refine zn_getf hB zd235_20 rfl rfl (fun q20 r20 => ?_)
  refine zn_con hB zd235_23 rfl ?_
  refine zn_iadd hB zd235_24 (by omega) (by omega) ?_
  refine zn_putf hB zd235_25 rfl rfl (fun h => by cases h) rfl ?_
  refine zn_ald hB zd235_28 rfl rfl rfl ?_
  refine zn_ild hB zd235_29 rfl rfl ?_
  refine zn_con hB zd235_30 rfl ?_
  refine zn_iv2 hB (zh225 (cm := cm) (said := said)) zd235_31 zxt225 rfl ⟨rfl, rfl, rfl, by omega, by omega, by omega, by omega, by omega, by omega⟩ (fun r31 F31 G31 hq31 => ?_)
  obtain ⟨rfl, rfl, rfl⟩ := hq31
  refine zn_ald hB zd235_34 rfl rfl rfl ?_
  refine zn_ald hB zd235_35 rfl rfl rfl ?_
  refine zn_getf hB zd235_36 rfl rfl (fun q36 r36 => ?_)
  refine zn_con hB zd235_39 rfl ?_
  refine zn_iadd hB zd235_40 (by omega) (by omega) ?_
  refine zn_putf hB zd235_41 rfl rfl (fun h => by cases h) rfl ?_
  exact hvret _ _ _ _ zd235_44 trivial ⟨rfl, rfl, rfl⟩
theorem zd232_0 : decode zxm232.2.1 0 = .ok (.aload_n 0, 1) := by decide +kernel
theorem zd232_1 : decode zxm232.2.1 1 = .ok (.invokevirtual 238, 3) := by decide +kernel
theorem zd232_4 : decode zxm232.2.1 4 = .ok (.ifCond .ne 5, 3) := by decide +kernel
theorem zd232_7 : decode zxm232.2.1 7 = .ok (.iconst 0, 1) := by decide +kernel
theorem zd232_8 : decode zxm232.2.1 8 = .ok (.ireturn, 1) := by decide +kernel
theorem zd232_9 : decode zxm232.2.1 9 = .ok (.aload_n 0, 1) := by decide +kernel
theorem zd232_10 : decode zxm232.2.1 10 = .ok (.invokevirtual 182, 3) := by decide +kernel
theorem zd232_13 : decode zxm232.2.1 13 = .ok (.bipush 60, 2) := by decide +kernel
theorem zd232_15 : decode zxm232.2.1 15 = .ok (.if_icmp .ne 8, 3) := by decide +kernel
theorem zd232_18 : decode zxm232.2.1 18 = .ok (.bipush 7, 2) := by decide +kernel
theorem zd232_20 : decode zxm232.2.1 20 = .ok (.goto 32, 3) := by decide +kernel
theorem zd232_23 : decode zxm232.2.1 23 = .ok (.aload_n 0, 1) := by decide +kernel
theorem zd232_24 : decode zxm232.2.1 24 = .ok (.invokevirtual 182, 3) := by decide +kernel
theorem zd232_27 : decode zxm232.2.1 27 = .ok (.bipush 62, 2) := by decide +kernel
theorem zd232_29 : decode zxm232.2.1 29 = .ok (.if_icmp .ne 8, 3) := by decide +kernel
theorem zd232_32 : decode zxm232.2.1 32 = .ok (.bipush 8, 2) := by decide +kernel
theorem zd232_34 : decode zxm232.2.1 34 = .ok (.goto 18, 3) := by decide +kernel
theorem zd232_37 : decode zxm232.2.1 37 = .ok (.aload_n 0, 1) := by decide +kernel
theorem zd232_38 : decode zxm232.2.1 38 = .ok (.invokevirtual 182, 3) := by decide +kernel
theorem zd232_41 : decode zxm232.2.1 41 = .ok (.bipush 61, 2) := by decide +kernel
theorem zd232_43 : decode zxm232.2.1 43 = .ok (.if_icmp .ne 8, 3) := by decide +kernel
theorem zd232_46 : decode zxm232.2.1 46 = .ok (.bipush 9, 2) := by decide +kernel
theorem zd232_48 : decode zxm232.2.1 48 = .ok (.goto 4, 3) := by decide +kernel
theorem zd232_51 : decode zxm232.2.1 51 = .ok (.iconst (-1), 1) := by decide +kernel
theorem zd232_52 : decode zxm232.2.1 52 = .ok (.istore_n 1, 1) := by decide +kernel
theorem zd232_53 : decode zxm232.2.1 53 = .ok (.iload_n 1, 1) := by decide +kernel
theorem zd232_54 : decode zxm232.2.1 54 = .ok (.iconst (-1), 1) := by decide +kernel
theorem zd232_55 : decode zxm232.2.1 55 = .ok (.if_icmp .ne 13, 3) := by decide +kernel
theorem zd232_58 : decode zxm232.2.1 58 = .ok (.aload_n 0, 1) := by decide +kernel
theorem zd232_59 : decode zxm232.2.1 59 = .ok (.iconst 1, 1) := by decide +kernel
theorem zd232_60 : decode zxm232.2.1 60 = .ok (.aload_n 0, 1) := by decide +kernel
theorem zd232_61 : decode zxm232.2.1 61 = .ok (.getfield 176, 3) := by decide +kernel
theorem zd232_64 : decode zxm232.2.1 64 = .ok (.invokevirtual 189, 3) := by decide +kernel
theorem zd232_67 : decode zxm232.2.1 67 = .ok (.ireturn, 1) := by decide +kernel
theorem zd232_68 : decode zxm232.2.1 68 = .ok (.aload_n 0, 1) := by decide +kernel
theorem zd232_69 : decode zxm232.2.1 69 = .ok (.aload_n 0, 1) := by decide +kernel
theorem zd232_70 : decode zxm232.2.1 70 = .ok (.getfield 176, 3) := by decide +kernel
theorem zd232_73 : decode zxm232.2.1 73 = .ok (.iconst 1, 1) := by decide +kernel
theorem zd232_74 : decode zxm232.2.1 74 = .ok (.iadd, 1) := by decide +kernel
theorem zd232_75 : decode zxm232.2.1 75 = .ok (.putfield 176, 3) := by decide +kernel
theorem zd232_78 : decode zxm232.2.1 78 = .ok (.aload_n 0, 1) := by decide +kernel
theorem zd232_79 : decode zxm232.2.1 79 = .ok (.invokevirtual 238, 3) := by decide +kernel
theorem zd232_82 : decode zxm232.2.1 82 = .ok (.ifCond .ne 5, 3) := by decide +kernel
theorem zd232_85 : decode zxm232.2.1 85 = .ok (.iconst 0, 1) := by decide +kernel
theorem zd232_86 : decode zxm232.2.1 86 = .ok (.ireturn, 1) := by decide +kernel
theorem zd232_87 : decode zxm232.2.1 87 = .ok (.aload_n 0, 1) := by decide +kernel
theorem zd232_88 : decode zxm232.2.1 88 = .ok (.iload_n 1, 1) := by decide +kernel
theorem zd232_89 : decode zxm232.2.1 89 = .ok (.iconst 0, 1) := by decide +kernel
theorem zd232_90 : decode zxm232.2.1 90 = .ok (.invokevirtual 212, 3) := by decide +kernel
theorem zd232_93 : decode zxm232.2.1 93 = .ok (.aload_n 0, 1) := by decide +kernel
theorem zd232_94 : decode zxm232.2.1 94 = .ok (.invokevirtual 241, 3) := by decide +kernel
theorem zd232_97 : decode zxm232.2.1 97 = .ok (.iconst 1, 1) := by decide +kernel
theorem zd232_98 : decode zxm232.2.1 98 = .ok (.ireturn, 1) := by decide +kernel
theorem zh232  : zn_OK z_TB z_cl z_KX zyM zxm232 (5, 300) (fun va F G => va = [.inr 0] ∧ F = pl :: len :: fl :: op :: cm :: wt :: nb :: Fr ∧ G = tape :: said :: w :: Gr ∧ zp_s e0 D said w pl len cm wt d ∧ zp_low0 w wt) (fun va F G r F' G' => (r = some 0 ∧ zp_no len tape Fr Gr F' G') ∨ (r = some 1 ∧ ∃ D' said' w' pl' op' cm' wt' nb', F' = pl' :: len :: fl :: op' :: cm' :: wt' :: nb' :: Fr ∧ G' = tape :: said' :: w' :: Gr ∧ zp_s e0 D' said' w' pl' len cm' wt' (d + 1) ∧ (∀ k, k ≤ cm → D' k = D k) ∧ cm ≤ cm' ∧ wt' ≤ wt ∧ (∀ j, j < wt' → w' j = w j) ∧ (∀ i, wt' ≤ i → i < wt → w i / 1048576 = 10) ∧ pl < pl')) := zn_meth (K := zkM) (FT := z_FT) (MT := z_MT) (n := 1) zxp232 (z_ks13 _ (fun _ h => List.mem_cons_of_mem _ h) _ _ _ _ (fun j r h _ => by cases h)) (fun _ _ => zs_K_p) (by decide +kernel) (fun va F G h => by obtain ⟨rfl, _⟩ := h; rfl) rfl fun good va F G hB hret hvret hP => by
  obtain ⟨rfl, rfl, rfl, hs, hl⟩ := hP
  obtain ⟨a1, a2, a3, a4, a5, a6, a7, a8⟩ := hs.1
  refine zn_ald hB zd232_0 rfl rfl rfl ?_
  refine zn_iv0 hB (zh220 (e0 := e0) (D := D) (said := said) (w := w) (pl := pl) (cm := cm) (wt := wt) (d := d) (len := len)) zd232_1 zxt220 rfl ⟨rfl, rfl, rfl, hs, hl⟩ (fun r1 F1 G1 hq1 => ?_)
  rcases hq1 with ⟨rfl, p0, f0, o0, c0, w0, n0, s0, t0, rfl, rfl⟩ | ⟨rfl, D1, said1, w1, pl1, op1, cm1, nb1, rfl, rfl, g1, g2, g3, g4, g5, g6⟩
  · refine zn_zne hB zd232_4 rfl (fun h4 => ?_) (fun h4 => ?_)
    · exfalso; omega
    · refine zn_con hB zd232_7 rfl ?_
      exact hret _ _ _ _ _ zd232_8 (by constructor <;> decide) (Or.inl ⟨rfl, _, _, _, _, _, _, _, _, rfl, rfl⟩)
  · refine zn_zne hB zd232_4 rfl (fun h4 => ?_) (fun h4 => ?_)
    · obtain ⟨b1, b2, b3, b4, b5, b6, b7, b8⟩ := g1.1
      have hpn := zp_pn_nn (w := w1) (a := wt)
      have body : ∀ hw, 7 ≤ hw → hw ≤ 9 → pl1 < len → good 52 [.inr 0, .inr 1000] [.inl hw] (pl1 :: len :: fl :: op1 :: cm1 :: wt :: nb1 :: Fr) (tape :: said1 :: w1 :: Gr) := by
        intro hw hw1 hw2 hlt
        refine zn_ist hB zd232_52 rfl rfl rfl ?_
        refine zn_ild hB zd232_53 rfl rfl ?_
        refine zn_con hB zd232_54 rfl ?_
        refine zn_cne hB zd232_55 rfl (fun h55 => ?_) (fun h55 => ?_)
        · refine zn_ald hB zd232_68 rfl rfl rfl ?_
          refine zn_ald hB zd232_69 rfl rfl rfl ?_
          refine zn_getf hB zd232_70 rfl rfl (fun q70 r70 => ?_)
          refine zn_con hB zd232_73 rfl ?_
          refine zn_iadd hB zd232_74 (by omega) (by omega) ?_
          refine zn_putf hB zd232_75 rfl rfl (fun h => by cases h) rfl ?_
          refine zn_ald hB zd232_78 rfl rfl rfl ?_
          refine zn_iv0 hB (zh220 (e0 := e0 + 1) (D := D1) (said := said1) (w := w1) (pl := pl1 + 1) (cm := cm1) (wt := wt) (d := d + 1) (len := len)) zd232_79 zxt220 rfl ⟨rfl, rfl, rfl, zp_on1 g1 hlt, zp_low0_cg hl a2 g4⟩ (fun r79 F79 G79 hq79 => ?_)
          rcases hq79 with ⟨rfl, p0, f0, o0, c0, w0, n0, s0, t0, rfl, rfl⟩ | ⟨rfl, D2, said2, w2, pl2, op2, cm2, nb2, rfl, rfl, k1, k2, k3, k4, k5, k6⟩
          · refine zn_zne hB zd232_82 rfl (fun h82 => ?_) (fun h82 => ?_)
            · exfalso; omega
            · refine zn_con hB zd232_85 rfl ?_
              exact hret _ _ _ _ _ zd232_86 (by constructor <;> decide) (Or.inl ⟨rfl, _, _, _, _, _, _, _, _, rfl, rfl⟩)
          · refine zn_zne hB zd232_82 rfl (fun h82 => ?_) (fun h82 => ?_)
            · have hk := k1.1
              have hpn2 := zp_pn_nn (w := w2) (a := wt)
              refine zn_ald hB zd232_87 rfl rfl rfl ?_
              refine zn_ild hB zd232_88 rfl rfl ?_
              refine zn_con hB zd232_89 rfl ?_
              refine zn_iv2 hB (zh225 (cm := cm2) (said := said2)) zd232_90 zxt225 rfl ⟨rfl, rfl, rfl, by omega, by omega, by omega, by omega, by omega, by omega⟩ (fun r90 F90 G90 hq90 => ?_)
              obtain ⟨rfl, rfl, rfl⟩ := hq90
              have n1 := zp_note (pl2 := pl2) (op := hw) (v := 0) (d' := d + 1) (zp_we k1) (by omega) (by omega) (by omega) (by omega) (Or.inr (Or.inr (Or.inl (by omega))))
              refine zn_ald hB zd232_93 rfl rfl rfl ?_
              refine zn_iv0 hB (zh233 (e0 := e0) (D := zn_up D2 (cm2 + 1) (d + 1)) (d := d + 1) (wt := wt) (cm := cm2 + 1) (pl := pl2) (len := len)) zd232_94 zxt233 rfl ⟨rfl, rfl, rfl, n1, by omega⟩ (fun r94 F94 G94 hq94 => ?_)
              obtain ⟨rfl, D3, said3, op3, cm3, wt3, rfl, rfl, m1, m2, m3, m4, m5⟩ := hq94
              refine zn_con hB zd232_97 rfl ?_
              refine hret _ _ _ _ _ zd232_98 (by constructor <;> decide) (Or.inr ⟨rfl, D3, said3, w2, pl2, op3, cm3, wt3, nb2, rfl, rfl, m1, fun k hk => ?_, by omega, m3, fun j hj => ?_, fun i i1 i2 => ?_, by omega⟩)
              · rw [m2 k (by omega), zn_up_n (by omega), k2 k (by omega), g2 k hk]
              · rw [k4 j (by omega), g4 j (by omega)]
              · have := m5 i i1 i2
                rw [k4 i i2, g4 i i2] at this
                exact this
            · exfalso; omega
        · exfalso; omega
      refine zn_ald hB zd232_9 rfl rfl rfl ?_
      refine zn_iv0 hB (zh217 (pl := pl1) (len := len) (tape := tape)) zd232_10 zxt217 rfl ⟨rfl, rfl, rfl, by omega, by omega⟩ (fun r10 F10 G10 hq10 => ?_)
      obtain ⟨rfl, rfl, rfl⟩ := hq10
      refine zn_con hB zd232_13 rfl ?_
      refine zn_cne hB zd232_15 rfl (fun h15 => ?_) (fun h15 => ?_)
      · refine zn_ald hB zd232_23 rfl rfl rfl ?_
        refine zn_iv0 hB (zh217 (pl := pl1) (len := len) (tape := tape)) zd232_24 zxt217 rfl ⟨rfl, rfl, rfl, by omega, by omega⟩ (fun r24 F24 G24 hq24 => ?_)
        obtain ⟨rfl, rfl, rfl⟩ := hq24
        refine zn_con hB zd232_27 rfl ?_
        refine zn_cne hB zd232_29 rfl (fun h29 => ?_) (fun h29 => ?_)
        · refine zn_ald hB zd232_37 rfl rfl rfl ?_
          refine zn_iv0 hB (zh217 (pl := pl1) (len := len) (tape := tape)) zd232_38 zxt217 rfl ⟨rfl, rfl, rfl, by omega, by omega⟩ (fun r38 F38 G38 hq38 => ?_)
          obtain ⟨rfl, rfl, rfl⟩ := hq38
          refine zn_con hB zd232_41 rfl ?_
          refine zn_cne hB zd232_43 rfl (fun h43 => ?_) (fun h43 => ?_)
          · refine zn_con hB zd232_51 rfl ?_
            refine zn_ist hB zd232_52 rfl rfl rfl ?_
            refine zn_ild hB zd232_53 rfl rfl ?_
            refine zn_con hB zd232_54 rfl ?_
            refine zn_cne hB zd232_55 rfl (fun h55 => ?_) (fun h55 => ?_)
            · exfalso; omega
            · refine zn_ald hB zd232_58 rfl rfl rfl ?_
              refine zn_con hB zd232_59 rfl ?_
              refine zn_ald hB zd232_60 rfl rfl rfl ?_
              refine zn_getf hB zd232_61 rfl rfl (fun q61 r61 => ?_)
              refine zn_iv2 hB zh219 zd232_64 zxt219 rfl ⟨rfl, rfl⟩ (fun r64 F64 G64 hq64 => ?_)
              obtain ⟨rfl, fl1, rfl, rfl⟩ := hq64
              exact hret _ _ _ _ _ zd232_67 (by constructor <;> decide) (Or.inl ⟨rfl, _, _, _, _, _, _, _, _, rfl, rfl⟩)
          · refine zn_con hB zd232_46 rfl ?_
            refine zn_goto hB zd232_48 rfl ?_
            exact body _ (by omega) (by omega) (zp_h_lt (tape := tape) (by omega))
        · refine zn_con hB zd232_32 rfl ?_
          refine zn_goto hB zd232_34 rfl ?_
          exact body _ (by omega) (by omega) (zp_h_lt (tape := tape) (by omega))
      · refine zn_con hB zd232_18 rfl ?_
        refine zn_goto hB zd232_20 rfl ?_
        exact body _ (by omega) (by omega) (zp_h_lt (tape := tape) (by omega))
    · exfalso; omega
end ZREAD4
end
section
/-! The reading of laws: a whole condition, a clause. -/
section ZREAD5
variable {e0 : Nat} {pl len fl op cm wt nb d : Int} {tape said w D : Int → Int} {Fr : List Int} {Gr : List (Int → Int)}
theorem zd231_0 : decode zxm231.2.1 0 = .ok (.aload_n 0, 1) := by decide +kernel
theorem zd231_1 : decode zxm231.2.1 1 = .ok (.invokevirtual 182, 3) := by decide +kernel
theorem zd231_4 : decode zxm231.2.1 4 = .ok (.bipush 40, 2) := by decide +kernel
theorem zd231_6 : decode zxm231.2.1 6 = .ok (.if_icmp .eq 13, 3) := by decide +kernel
theorem zd231_9 : decode zxm231.2.1 9 = .ok (.aload_n 0, 1) := by decide +kernel
theorem zd231_10 : decode zxm231.2.1 10 = .ok (.iconst 1, 1) := by decide +kernel
theorem zd231_11 : decode zxm231.2.1 11 = .ok (.aload_n 0, 1) := by decide +kernel
theorem zd231_12 : decode zxm231.2.1 12 = .ok (.getfield 176, 3) := by decide +kernel
theorem zd231_15 : decode zxm231.2.1 15 = .ok (.invokevirtual 189, 3) := by decide +kernel
theorem zd231_18 : decode zxm231.2.1 18 = .ok (.ireturn, 1) := by decide +kernel
theorem zd231_19 : decode zxm231.2.1 19 = .ok (.aload_n 0, 1) := by decide +kernel
theorem zd231_20 : decode zxm231.2.1 20 = .ok (.iconst 0, 1) := by decide +kernel
theorem zd231_21 : decode zxm231.2.1 21 = .ok (.putfield 203, 3) := by decide +kernel
theorem zd231_24 : decode zxm231.2.1 24 = .ok (.aload_n 0, 1) := by decide +kernel
theorem zd231_25 : decode zxm231.2.1 25 = .ok (.iconst 0, 1) := by decide +kernel
theorem zd231_26 : decode zxm231.2.1 26 = .ok (.putfield 206, 3) := by decide +kernel
theorem zd231_29 : decode zxm231.2.1 29 = .ok (.aload_n 0, 1) := by decide +kernel
theorem zd231_30 : decode zxm231.2.1 30 = .ok (.bipush 13, 2) := by decide +kernel
theorem zd231_32 : decode zxm231.2.1 32 = .ok (.invokevirtual 216, 3) := by decide +kernel
theorem zd231_35 : decode zxm231.2.1 35 = .ok (.ifCond .ne 5, 3) := by decide +kernel
theorem zd231_38 : decode zxm231.2.1 38 = .ok (.iconst 0, 1) := by decide +kernel
theorem zd231_39 : decode zxm231.2.1 39 = .ok (.ireturn, 1) := by decide +kernel
theorem zd231_40 : decode zxm231.2.1 40 = .ok (.aload_n 0, 1) := by decide +kernel
theorem zd231_41 : decode zxm231.2.1 41 = .ok (.invokevirtual 182, 3) := by decide +kernel
theorem zd231_44 : decode zxm231.2.1 44 = .ok (.bipush 33, 2) := by decide +kernel
theorem zd231_46 : decode zxm231.2.1 46 = .ok (.if_icmp .eq 12, 3) := by decide +kernel
theorem zd231_49 : decode zxm231.2.1 49 = .ok (.aload_n 0, 1) := by decide +kernel
theorem zd231_50 : decode zxm231.2.1 50 = .ok (.invokevirtual 182, 3) := by decide +kernel
theorem zd231_53 : decode zxm231.2.1 53 = .ok (.bipush 40, 2) := by decide +kernel
theorem zd231_55 : decode zxm231.2.1 55 = .ok (.if_icmp .ne 28, 3) := by decide +kernel
theorem zd231_58 : decode zxm231.2.1 58 = .ok (.aload_n 0, 1) := by decide +kernel
theorem zd231_59 : decode zxm231.2.1 59 = .ok (.aload_n 0, 1) := by decide +kernel
theorem zd231_60 : decode zxm231.2.1 60 = .ok (.invokevirtual 182, 3) := by decide +kernel
theorem zd231_63 : decode zxm231.2.1 63 = .ok (.bipush 33, 2) := by decide +kernel
theorem zd231_65 : decode zxm231.2.1 65 = .ok (.if_icmp .ne 8, 3) := by decide +kernel
theorem zd231_68 : decode zxm231.2.1 68 = .ok (.bipush 10, 2) := by decide +kernel
theorem zd231_70 : decode zxm231.2.1 70 = .ok (.goto 5, 3) := by decide +kernel
theorem zd231_73 : decode zxm231.2.1 73 = .ok (.bipush 13, 2) := by decide +kernel
theorem zd231_75 : decode zxm231.2.1 75 = .ok (.invokevirtual 216, 3) := by decide +kernel
theorem zd231_78 : decode zxm231.2.1 78 = .ok (.ifCond .ne (-38), 3) := by decide +kernel
theorem zd231_81 : decode zxm231.2.1 81 = .ok (.iconst 0, 1) := by decide +kernel
theorem zd231_82 : decode zxm231.2.1 82 = .ok (.ireturn, 1) := by decide +kernel
theorem zd231_83 : decode zxm231.2.1 83 = .ok (.aload_n 0, 1) := by decide +kernel
theorem zd231_84 : decode zxm231.2.1 84 = .ok (.invokevirtual 244, 3) := by decide +kernel
theorem zd231_87 : decode zxm231.2.1 87 = .ok (.ifCond .ne 5, 3) := by decide +kernel
theorem zd231_90 : decode zxm231.2.1 90 = .ok (.iconst 0, 1) := by decide +kernel
theorem zd231_91 : decode zxm231.2.1 91 = .ok (.ireturn, 1) := by decide +kernel
theorem zd231_92 : decode zxm231.2.1 92 = .ok (.aload_n 0, 1) := by decide +kernel
theorem zd231_93 : decode zxm231.2.1 93 = .ok (.invokevirtual 182, 3) := by decide +kernel
theorem zd231_96 : decode zxm231.2.1 96 = .ok (.bipush 41, 2) := by decide +kernel
theorem zd231_98 : decode zxm231.2.1 98 = .ok (.if_icmp .ne 54, 3) := by decide +kernel
theorem zd231_101 : decode zxm231.2.1 101 = .ok (.aload_n 0, 1) := by decide +kernel
theorem zd231_102 : decode zxm231.2.1 102 = .ok (.iconst 1, 1) := by decide +kernel
theorem zd231_103 : decode zxm231.2.1 103 = .ok (.invokevirtual 247, 3) := by decide +kernel
theorem zd231_106 : decode zxm231.2.1 106 = .ok (.aload_n 0, 1) := by decide +kernel
theorem zd231_107 : decode zxm231.2.1 107 = .ok (.aload_n 0, 1) := by decide +kernel
theorem zd231_108 : decode zxm231.2.1 108 = .ok (.getfield 206, 3) := by decide +kernel
theorem zd231_111 : decode zxm231.2.1 111 = .ok (.iconst 1, 1) := by decide +kernel
theorem zd231_112 : decode zxm231.2.1 112 = .ok (.isub, 1) := by decide +kernel
theorem zd231_113 : decode zxm231.2.1 113 = .ok (.putfield 206, 3) := by decide +kernel
theorem zd231_116 : decode zxm231.2.1 116 = .ok (.aload_n 0, 1) := by decide +kernel
theorem zd231_117 : decode zxm231.2.1 117 = .ok (.aload_n 0, 1) := by decide +kernel
theorem zd231_118 : decode zxm231.2.1 118 = .ok (.getfield 203, 3) := by decide +kernel
theorem zd231_121 : decode zxm231.2.1 121 = .ok (.iconst 1, 1) := by decide +kernel
theorem zd231_122 : decode zxm231.2.1 122 = .ok (.isub, 1) := by decide +kernel
theorem zd231_123 : decode zxm231.2.1 123 = .ok (.putfield 203, 3) := by decide +kernel
theorem zd231_126 : decode zxm231.2.1 126 = .ok (.aload_n 0, 1) := by decide +kernel
theorem zd231_127 : decode zxm231.2.1 127 = .ok (.aload_n 0, 1) := by decide +kernel
theorem zd231_128 : decode zxm231.2.1 128 = .ok (.getfield 176, 3) := by decide +kernel
theorem zd231_131 : decode zxm231.2.1 131 = .ok (.iconst 1, 1) := by decide +kernel
theorem zd231_132 : decode zxm231.2.1 132 = .ok (.iadd, 1) := by decide +kernel
theorem zd231_133 : decode zxm231.2.1 133 = .ok (.putfield 176, 3) := by decide +kernel
theorem zd231_136 : decode zxm231.2.1 136 = .ok (.aload_n 0, 1) := by decide +kernel
theorem zd231_137 : decode zxm231.2.1 137 = .ok (.getfield 206, 3) := by decide +kernel
theorem zd231_140 : decode zxm231.2.1 140 = .ok (.ifCond .ne 5, 3) := by decide +kernel
theorem zd231_143 : decode zxm231.2.1 143 = .ok (.iconst 1, 1) := by decide +kernel
theorem zd231_144 : decode zxm231.2.1 144 = .ok (.ireturn, 1) := by decide +kernel
theorem zd231_145 : decode zxm231.2.1 145 = .ok (.aload_n 0, 1) := by decide +kernel
theorem zd231_146 : decode zxm231.2.1 146 = .ok (.invokevirtual 241, 3) := by decide +kernel
theorem zd231_149 : decode zxm231.2.1 149 = .ok (.goto (-57), 3) := by decide +kernel
theorem zd231_152 : decode zxm231.2.1 152 = .ok (.aload_n 0, 1) := by decide +kernel
theorem zd231_153 : decode zxm231.2.1 153 = .ok (.invokevirtual 182, 3) := by decide +kernel
theorem zd231_156 : decode zxm231.2.1 156 = .ok (.bipush 38, 2) := by decide +kernel
theorem zd231_158 : decode zxm231.2.1 158 = .ok (.if_icmp .eq 22, 3) := by decide +kernel
theorem zd231_161 : decode zxm231.2.1 161 = .ok (.aload_n 0, 1) := by decide +kernel
theorem zd231_162 : decode zxm231.2.1 162 = .ok (.invokevirtual 182, 3) := by decide +kernel
theorem zd231_165 : decode zxm231.2.1 165 = .ok (.bipush 124, 2) := by decide +kernel
theorem zd231_167 : decode zxm231.2.1 167 = .ok (.if_icmp .eq 13, 3) := by decide +kernel
theorem zd231_170 : decode zxm231.2.1 170 = .ok (.aload_n 0, 1) := by decide +kernel
theorem zd231_171 : decode zxm231.2.1 171 = .ok (.iconst 1, 1) := by decide +kernel
theorem zd231_172 : decode zxm231.2.1 172 = .ok (.aload_n 0, 1) := by decide +kernel
theorem zd231_173 : decode zxm231.2.1 173 = .ok (.getfield 176, 3) := by decide +kernel
theorem zd231_176 : decode zxm231.2.1 176 = .ok (.invokevirtual 189, 3) := by decide +kernel
theorem zd231_179 : decode zxm231.2.1 179 = .ok (.ireturn, 1) := by decide +kernel
theorem zd231_180 : decode zxm231.2.1 180 = .ok (.aload_n 0, 1) := by decide +kernel
theorem zd231_181 : decode zxm231.2.1 181 = .ok (.aload_n 0, 1) := by decide +kernel
theorem zd231_182 : decode zxm231.2.1 182 = .ok (.invokevirtual 182, 3) := by decide +kernel
theorem zd231_185 : decode zxm231.2.1 185 = .ok (.bipush 124, 2) := by decide +kernel
theorem zd231_187 : decode zxm231.2.1 187 = .ok (.if_icmp .ne 7, 3) := by decide +kernel
theorem zd231_190 : decode zxm231.2.1 190 = .ok (.iconst 1, 1) := by decide +kernel
theorem zd231_191 : decode zxm231.2.1 191 = .ok (.goto 4, 3) := by decide +kernel
theorem zd231_194 : decode zxm231.2.1 194 = .ok (.iconst 0, 1) := by decide +kernel
theorem zd231_195 : decode zxm231.2.1 195 = .ok (.invokevirtual 247, 3) := by decide +kernel
theorem zd231_198 : decode zxm231.2.1 198 = .ok (.aload_n 0, 1) := by decide +kernel
theorem zd231_199 : decode zxm231.2.1 199 = .ok (.aload_n 0, 1) := by decide +kernel
theorem zd231_200 : decode zxm231.2.1 200 = .ok (.invokevirtual 182, 3) := by decide +kernel
theorem zd231_203 : decode zxm231.2.1 203 = .ok (.bipush 38, 2) := by decide +kernel
theorem zd231_205 : decode zxm231.2.1 205 = .ok (.if_icmp .ne 8, 3) := by decide +kernel
theorem zd231_208 : decode zxm231.2.1 208 = .ok (.bipush 11, 2) := by decide +kernel
theorem zd231_210 : decode zxm231.2.1 210 = .ok (.goto 5, 3) := by decide +kernel
theorem zd231_213 : decode zxm231.2.1 213 = .ok (.bipush 12, 2) := by decide +kernel
theorem zd231_215 : decode zxm231.2.1 215 = .ok (.invokevirtual 250, 3) := by decide +kernel
theorem zd231_218 : decode zxm231.2.1 218 = .ok (.goto (-178), 3) := by decide +kernel
theorem zh231  : zn_OK z_TB z_cl z_KX zyM zxm231 (6, 360) (fun va F G => va = [.inr 0] ∧ F = pl :: len :: fl :: op :: cm :: wt :: nb :: Fr ∧ G = tape :: said :: w :: Gr ∧ zp_s e0 D said w pl len cm 0 0) (fun va F G r F' G' => (r = some 0 ∧ zp_no len tape Fr Gr F' G') ∨ (r = some 1 ∧ ∃ D' said' w' pl' op' cm' nb', F' = pl' :: len :: fl :: op' :: cm' :: 0 :: nb' :: Fr ∧ G' = tape :: said' :: w' :: Gr ∧ zp_s e0 D' said' w' pl' len cm' 0 1 ∧ (∀ k, k ≤ cm → D' k = D k) ∧ cm ≤ cm' ∧ pl < pl')) := zn_meth (K := zkM) (FT := z_FT) (MT := z_MT) (n := 1) zxp231 (z_ks13 _ (fun _ h => List.mem_cons_of_mem _ h) _ _ _ _ (fun j r h _ => by cases h)) (fun _ _ => zs_K_p) (by decide +kernel) (fun va F G h => by obtain ⟨rfl, _⟩ := h; rfl) rfl fun good va F G hB hret hvret hP => by
  obtain ⟨rfl, rfl, rfl, hs⟩ := hP
  obtain ⟨a1, a2, a3, a4, a5, a6, a7, a8⟩ := hs.1
  have key : ∀ (n : Nat), (∀ (D1 said1 w1 : Int → Int) (pl1 op1 cm1 wt1 nb1 : Int), zp_s e0 D1 said1 w1 pl1 len cm1 wt1 0 → zp_cd w1 wt1 → (∀ k, k ≤ cm → D1 k = D k) → cm ≤ cm1 → pl < pl1 → len - pl1 < n → good 40 [.inr 0] [] (pl1 :: len :: fl :: op1 :: cm1 :: wt1 :: nb1 :: Fr) (tape :: said1 :: w1 :: Gr)) ∧ (∀ (D1 said1 w1 : Int → Int) (pl1 op1 cm1 wt1 nb1 : Int), zp_s e0 D1 said1 w1 pl1 len cm1 wt1 1 → zp_cd w1 wt1 → (∀ k, k ≤ cm → D1 k = D k) → cm ≤ cm1 → pl < pl1 → len - pl1 < n → good 92 [.inr 0] [] (pl1 :: len :: fl :: op1 :: cm1 :: wt1 :: nb1 :: Fr) (tape :: said1 :: w1 :: Gr)) := by
    intro n
    induction n with
    | zero =>
      constructor
      · intro D1 said1 w1 pl1 op1 cm1 wt1 nb1 h1 hc hD hcm hpl hn
        have := h1.1
        exfalso; omega
      · intro D1 said1 w1 pl1 op1 cm1 wt1 nb1 h1 hc hD hcm hpl hn
        have := h1.1
        exfalso; omega
    | succ n ih =>
      constructor
      · intro D1 said1 w1 pl1 op1 cm1 wt1 nb1 h1 hc hD hcm hpl hn
        obtain ⟨b1, b2, b3, b4, b5, b6, b7, b8⟩ := h1.1
        have hpn := zp_pn_nn (w := w1) (a := wt1)
        have hc1 := hc.1
        refine zn_ald hB zd231_40 rfl rfl rfl ?_
        refine zn_iv0 hB (zh217 (pl := pl1) (len := len) (tape := tape)) zd231_41 zxt217 rfl ⟨rfl, rfl, rfl, by omega, by omega⟩ (fun r41 F41 G41 hq41 => ?_)
        obtain ⟨rfl, rfl, rfl⟩ := hq41
        refine zn_con hB zd231_44 rfl ?_
        refine zn_ceq hB zd231_46 rfl (fun h46 => ?_) (fun h46 => ?_)
        · have hlt := zp_h_lt (tape := tape) (pl := pl1) (len := len) (by omega)
          refine zn_ald hB zd231_58 rfl rfl rfl ?_
          refine zn_ald hB zd231_59 rfl rfl rfl ?_
          refine zn_iv0 hB (zh217 (pl := pl1) (len := len) (tape := tape)) zd231_60 zxt217 rfl ⟨rfl, rfl, rfl, by omega, by omega⟩ (fun r60 F60 G60 hq60 => ?_)
          obtain ⟨rfl, rfl, rfl⟩ := hq60
          refine zn_con hB zd231_63 rfl ?_
          refine zn_cne hB zd231_65 rfl (fun h65 => ?_) (fun h65 => ?_)
          · refine zn_con hB zd231_73 rfl ?_
            refine zn_iv1 hB (zh222 (pl := pl1) (wt := wt1) (w := w1)) zd231_75 zxt222 rfl ⟨rfl, rfl, rfl, by omega, by omega, by omega, by omega, by omega, by omega⟩ (fun r75 F75 G75 hq75 => ?_)
            rcases hq75 with ⟨rfl, f0, rfl, rfl⟩ | ⟨rfl, op2, rfl, rfl⟩
            · refine zn_zne hB zd231_78 rfl (fun h78 => ?_) (fun h78 => ?_)
              · exfalso; omega
              · refine zn_con hB zd231_81 rfl ?_
                exact hret _ _ _ _ _ zd231_82 (by constructor <;> decide) (Or.inl ⟨rfl, _, _, _, _, _, _, _, _, rfl, rfl⟩)
            · refine zn_zne hB zd231_78 rfl (fun h78 => ?_) (fun h78 => ?_)
              · have hz := zp_push (pl2 := pl1 + 1) (x := 1048576 * 13) h1 (by omega) (by rw [if_neg (by omega)]; omega)
                exact ih.1 _ _ _ _ _ _ _ _ hz (zp_cd_up hc (by omega)) hD hcm (by omega) (by omega)
              · exfalso; omega
          · refine zn_con hB zd231_68 rfl ?_
            refine zn_goto hB zd231_70 rfl ?_
            refine zn_iv1 hB (zh222 (pl := pl1) (wt := wt1) (w := w1)) zd231_75 zxt222 rfl ⟨rfl, rfl, rfl, by omega, by omega, by omega, by omega, by omega, by omega⟩ (fun r75 F75 G75 hq75 => ?_)
            rcases hq75 with ⟨rfl, f0, rfl, rfl⟩ | ⟨rfl, op2, rfl, rfl⟩
            · refine zn_zne hB zd231_78 rfl (fun h78 => ?_) (fun h78 => ?_)
              · exfalso; omega
              · refine zn_con hB zd231_81 rfl ?_
                exact hret _ _ _ _ _ zd231_82 (by constructor <;> decide) (Or.inl ⟨rfl, _, _, _, _, _, _, _, _, rfl, rfl⟩)
            · refine zn_zne hB zd231_78 rfl (fun h78 => ?_) (fun h78 => ?_)
              · have hz := zp_push (pl2 := pl1 + 1) (x := 1048576 * 10) h1 (by omega) (by rw [if_pos (by omega)]; omega)
                exact ih.1 _ _ _ _ _ _ _ _ hz (zp_cd_up hc (by omega)) hD hcm (by omega) (by omega)
              · exfalso; omega
        · refine zn_ald hB zd231_49 rfl rfl rfl ?_
          refine zn_iv0 hB (zh217 (pl := pl1) (len := len) (tape := tape)) zd231_50 zxt217 rfl ⟨rfl, rfl, rfl, by omega, by omega⟩ (fun r50 F50 G50 hq50 => ?_)
          obtain ⟨rfl, rfl, rfl⟩ := hq50
          refine zn_con hB zd231_53 rfl ?_
          refine zn_cne hB zd231_55 rfl (fun h55 => ?_) (fun h55 => ?_)
          · refine zn_ald hB zd231_83 rfl rfl rfl ?_
            refine zn_iv0 hB (zh232 (e0 := e0) (D := D1) (said := said1) (w := w1) (pl := pl1) (cm := cm1) (wt := wt1) (d := 0) (len := len)) zd231_84 zxt232 rfl ⟨rfl, rfl, rfl, h1, zp_cd_low hc⟩ (fun r84 F84 G84 hq84 => ?_)
            rcases hq84 with ⟨rfl, p0, f0, o0, c0, w0, n0, s0, t0, rfl, rfl⟩ | ⟨rfl, D2, said2, w2, pl2, op2, cm2, wt2, nb2, rfl, rfl, k1, k2, k3, k4, k5, k6, k7⟩
            · refine zn_zne hB zd231_87 rfl (fun h87 => ?_) (fun h87 => ?_)
              · exfalso; omega
              · refine zn_con hB zd231_90 rfl ?_
                exact hret _ _ _ _ _ zd231_91 (by constructor <;> decide) (Or.inl ⟨rfl, _, _, _, _, _, _, _, _, rfl, rfl⟩)
            · refine zn_zne hB zd231_87 rfl (fun h87 => ?_) (fun h87 => ?_)
              · exact ih.2 _ _ _ _ _ _ _ _ k1 (zp_cd_cut hc k1.1.2.1 k4 k5 (fun i i1 i2 => by have := k6 i i1 i2; omega)) (fun k hk => by rw [k2 k (by omega), hD k hk]) (by omega) (by omega) (by omega)
              · exfalso; omega
          · have hlt := zp_h_lt (tape := tape) (pl := pl1) (len := len) (by omega)
            refine zn_ald hB zd231_58 rfl rfl rfl ?_
            refine zn_ald hB zd231_59 rfl rfl rfl ?_
            refine zn_iv0 hB (zh217 (pl := pl1) (len := len) (tape := tape)) zd231_60 zxt217 rfl ⟨rfl, rfl, rfl, by omega, by omega⟩ (fun r60 F60 G60 hq60 => ?_)
            obtain ⟨rfl, rfl, rfl⟩ := hq60
            refine zn_con hB zd231_63 rfl ?_
            refine zn_cne hB zd231_65 rfl (fun h65 => ?_) (fun h65 => ?_)
            · refine zn_con hB zd231_73 rfl ?_
              refine zn_iv1 hB (zh222 (pl := pl1) (wt := wt1) (w := w1)) zd231_75 zxt222 rfl ⟨rfl, rfl, rfl, by omega, by omega, by omega, by omega, by omega, by omega⟩ (fun r75 F75 G75 hq75 => ?_)
              rcases hq75 with ⟨rfl, f0, rfl, rfl⟩ | ⟨rfl, op2, rfl, rfl⟩
              · refine zn_zne hB zd231_78 rfl (fun h78 => ?_) (fun h78 => ?_)
                · exfalso; omega
                · refine zn_con hB zd231_81 rfl ?_
                  exact hret _ _ _ _ _ zd231_82 (by constructor <;> decide) (Or.inl ⟨rfl, _, _, _, _, _, _, _, _, rfl, rfl⟩)
              · refine zn_zne hB zd231_78 rfl (fun h78 => ?_) (fun h78 => ?_)
                · have hz := zp_push (pl2 := pl1 + 1) (x := 1048576 * 13) h1 (by omega) (by rw [if_neg (by omega)]; omega)
                  exact ih.1 _ _ _ _ _ _ _ _ hz (zp_cd_up hc (by omega)) hD hcm (by omega) (by omega)
                · exfalso; omega
            · refine zn_con hB zd231_68 rfl ?_
              refine zn_goto hB zd231_70 rfl ?_
              refine zn_iv1 hB (zh222 (pl := pl1) (wt := wt1) (w := w1)) zd231_75 zxt222 rfl ⟨rfl, rfl, rfl, by omega, by omega, by omega, by omega, by omega, by omega⟩ (fun r75 F75 G75 hq75 => ?_)
              rcases hq75 with ⟨rfl, f0, rfl, rfl⟩ | ⟨rfl, op2, rfl, rfl⟩
              · refine zn_zne hB zd231_78 rfl (fun h78 => ?_) (fun h78 => ?_)
                · exfalso; omega
                · refine zn_con hB zd231_81 rfl ?_
                  exact hret _ _ _ _ _ zd231_82 (by constructor <;> decide) (Or.inl ⟨rfl, _, _, _, _, _, _, _, _, rfl, rfl⟩)
              · refine zn_zne hB zd231_78 rfl (fun h78 => ?_) (fun h78 => ?_)
                · have hz := zp_push (pl2 := pl1 + 1) (x := 1048576 * 10) h1 (by omega) (by rw [if_pos (by omega)]; omega)
                  exact ih.1 _ _ _ _ _ _ _ _ hz (zp_cd_up hc (by omega)) hD hcm (by omega) (by omega)
                · exfalso; omega
      · intro D1 said1 w1 pl1 op1 cm1 wt1 nb1 h1 hc hD hcm hpl hn
        obtain ⟨b1, b2, b3, b4, b5, b6, b7, b8⟩ := h1.1
        have hpn := zp_pn_nn (w := w1) (a := wt1)
        have hc1 := hc.1
        refine zn_ald hB zd231_92 rfl rfl rfl ?_
        refine zn_iv0 hB (zh217 (pl := pl1) (len := len) (tape := tape)) zd231_93 zxt217 rfl ⟨rfl, rfl, rfl, by omega, by omega⟩ (fun r93 F93 G93 hq93 => ?_)
        obtain ⟨rfl, rfl, rfl⟩ := hq93
        refine zn_con hB zd231_96 rfl ?_
        refine zn_cne hB zd231_98 rfl (fun h98 => ?_) (fun h98 => ?_)
        · refine zn_ald hB zd231_152 rfl rfl rfl ?_
          refine zn_iv0 hB (zh217 (pl := pl1) (len := len) (tape := tape)) zd231_153 zxt217 rfl ⟨rfl, rfl, rfl, by omega, by omega⟩ (fun r153 F153 G153 hq153 => ?_)
          obtain ⟨rfl, rfl, rfl⟩ := hq153
          refine zn_con hB zd231_156 rfl ?_
          refine zn_ceq hB zd231_158 rfl (fun h158 => ?_) (fun h158 => ?_)
          · have hlt := zp_h_lt (tape := tape) (pl := pl1) (len := len) (by omega)
            refine zn_ald hB zd231_180 rfl rfl rfl ?_
            refine zn_ald hB zd231_181 rfl rfl rfl ?_
            refine zn_iv0 hB (zh217 (pl := pl1) (len := len) (tape := tape)) zd231_182 zxt217 rfl ⟨rfl, rfl, rfl, by omega, by omega⟩ (fun r182 F182 G182 hq182 => ?_)
            obtain ⟨rfl, rfl, rfl⟩ := hq182
            refine zn_con hB zd231_185 rfl ?_
            refine zn_cne hB zd231_187 rfl (fun h187 => ?_) (fun h187 => ?_)
            · refine zn_con hB zd231_194 rfl ?_
              refine zn_iv1 hB (zh234 (e0 := e0) (D := D1) (said := said1) (w := w1) (pl := pl1) (cm := cm1) (wt := wt1) (d := 1) (len := len)) zd231_195 zxt234 rfl ⟨rfl, rfl, rfl, h1, by omega⟩ (fun r195 F195 G195 hq195 => ?_)
              obtain ⟨rfl, said2, wt2, rfl, rfl, ⟨l1, l2, l3⟩, l4⟩ := hq195
              obtain ⟨c1, c2, c3, c4, c5, c6, c7, c8⟩ := l1.1
              have hc2 : zp_cd w1 wt2 := zp_cd_cut hc c2 l2 (fun _ _ => rfl) (fun i i1 i2 => by have := l3 i i1 i2; omega)
              have hc3 := hc2.1
              have hpn2 := zp_pn_nn (w := w1) (a := wt2)
              refine zn_ald hB zd231_198 rfl rfl rfl ?_
              refine zn_ald hB zd231_199 rfl rfl rfl ?_
              refine zn_iv0 hB (zh217 (pl := pl1) (len := len) (tape := tape)) zd231_200 zxt217 rfl ⟨rfl, rfl, rfl, by omega, by omega⟩ (fun r200 F200 G200 hq200 => ?_)
              obtain ⟨rfl, rfl, rfl⟩ := hq200
              refine zn_con hB zd231_203 rfl ?_
              refine zn_cne hB zd231_205 rfl (fun h205 => ?_) (fun h205 => ?_)
              · refine zn_con hB zd231_213 rfl ?_
                refine zn_iv1 hB (zh235 (cm := cm1) (said := said2) (wt := wt2) (w := w1) (pl := pl1)) zd231_215 zxt235 rfl ⟨rfl, rfl, rfl, by omega, by omega, by omega, by omega, by omega, by omega, by omega, by omega⟩ (fun r215 F215 G215 hq215 => ?_)
                obtain ⟨rfl, rfl, rfl⟩ := hq215
                refine zn_goto hB zd231_218 rfl ?_
                have hz := zp_jump (pl2 := pl1 + 1) (op := 12) l1 (by omega) (by omega) (by omega)
                exact ih.1 _ _ _ _ _ _ _ _ hz (zp_cd_up hc2 (by omega)) (fun k hk => by rw [zn_up_n (by omega), hD k hk]) (by omega) (by omega) (by omega)
              · refine zn_con hB zd231_208 rfl ?_
                refine zn_goto hB zd231_210 rfl ?_
                refine zn_iv1 hB (zh235 (cm := cm1) (said := said2) (wt := wt2) (w := w1) (pl := pl1)) zd231_215 zxt235 rfl ⟨rfl, rfl, rfl, by omega, by omega, by omega, by omega, by omega, by omega, by omega, by omega⟩ (fun r215 F215 G215 hq215 => ?_)
                obtain ⟨rfl, rfl, rfl⟩ := hq215
                refine zn_goto hB zd231_218 rfl ?_
                have hz := zp_jump (pl2 := pl1 + 1) (op := 11) l1 (by omega) (by omega) (by omega)
                exact ih.1 _ _ _ _ _ _ _ _ hz (zp_cd_up hc2 (by omega)) (fun k hk => by rw [zn_up_n (by omega), hD k hk]) (by omega) (by omega) (by omega)
            · refine zn_con hB zd231_190 rfl ?_
              refine zn_goto hB zd231_191 rfl ?_
              refine zn_iv1 hB (zh234 (e0 := e0) (D := D1) (said := said1) (w := w1) (pl := pl1) (cm := cm1) (wt := wt1) (d := 1) (len := len)) zd231_195 zxt234 rfl ⟨rfl, rfl, rfl, h1, by omega⟩ (fun r195 F195 G195 hq195 => ?_)
              obtain ⟨rfl, said2, wt2, rfl, rfl, ⟨l1, l2, l3⟩, l4⟩ := hq195
              obtain ⟨c1, c2, c3, c4, c5, c6, c7, c8⟩ := l1.1
              have hc2 : zp_cd w1 wt2 := zp_cd_cut hc c2 l2 (fun _ _ => rfl) (fun i i1 i2 => by have := l3 i i1 i2; omega)
              have hc3 := hc2.1
              have hpn2 := zp_pn_nn (w := w1) (a := wt2)
              refine zn_ald hB zd231_198 rfl rfl rfl ?_
              refine zn_ald hB zd231_199 rfl rfl rfl ?_
              refine zn_iv0 hB (zh217 (pl := pl1) (len := len) (tape := tape)) zd231_200 zxt217 rfl ⟨rfl, rfl, rfl, by omega, by omega⟩ (fun r200 F200 G200 hq200 => ?_)
              obtain ⟨rfl, rfl, rfl⟩ := hq200
              refine zn_con hB zd231_203 rfl ?_
              refine zn_cne hB zd231_205 rfl (fun h205 => ?_) (fun h205 => ?_)
              · refine zn_con hB zd231_213 rfl ?_
                refine zn_iv1 hB (zh235 (cm := cm1) (said := said2) (wt := wt2) (w := w1) (pl := pl1)) zd231_215 zxt235 rfl ⟨rfl, rfl, rfl, by omega, by omega, by omega, by omega, by omega, by omega, by omega, by omega⟩ (fun r215 F215 G215 hq215 => ?_)
                obtain ⟨rfl, rfl, rfl⟩ := hq215
                refine zn_goto hB zd231_218 rfl ?_
                have hz := zp_jump (pl2 := pl1 + 1) (op := 12) l1 (by omega) (by omega) (by omega)
                exact ih.1 _ _ _ _ _ _ _ _ hz (zp_cd_up hc2 (by omega)) (fun k hk => by rw [zn_up_n (by omega), hD k hk]) (by omega) (by omega) (by omega)
              · refine zn_con hB zd231_208 rfl ?_
                refine zn_goto hB zd231_210 rfl ?_
                refine zn_iv1 hB (zh235 (cm := cm1) (said := said2) (wt := wt2) (w := w1) (pl := pl1)) zd231_215 zxt235 rfl ⟨rfl, rfl, rfl, by omega, by omega, by omega, by omega, by omega, by omega, by omega, by omega⟩ (fun r215 F215 G215 hq215 => ?_)
                obtain ⟨rfl, rfl, rfl⟩ := hq215
                refine zn_goto hB zd231_218 rfl ?_
                have hz := zp_jump (pl2 := pl1 + 1) (op := 11) l1 (by omega) (by omega) (by omega)
                exact ih.1 _ _ _ _ _ _ _ _ hz (zp_cd_up hc2 (by omega)) (fun k hk => by rw [zn_up_n (by omega), hD k hk]) (by omega) (by omega) (by omega)
          · refine zn_ald hB zd231_161 rfl rfl rfl ?_
            refine zn_iv0 hB (zh217 (pl := pl1) (len := len) (tape := tape)) zd231_162 zxt217 rfl ⟨rfl, rfl, rfl, by omega, by omega⟩ (fun r162 F162 G162 hq162 => ?_)
            obtain ⟨rfl, rfl, rfl⟩ := hq162
            refine zn_con hB zd231_165 rfl ?_
            refine zn_ceq hB zd231_167 rfl (fun h167 => ?_) (fun h167 => ?_)
            · have hlt := zp_h_lt (tape := tape) (pl := pl1) (len := len) (by omega)
              refine zn_ald hB zd231_180 rfl rfl rfl ?_
              refine zn_ald hB zd231_181 rfl rfl rfl ?_
              refine zn_iv0 hB (zh217 (pl := pl1) (len := len) (tape := tape)) zd231_182 zxt217 rfl ⟨rfl, rfl, rfl, by omega, by omega⟩ (fun r182 F182 G182 hq182 => ?_)
              obtain ⟨rfl, rfl, rfl⟩ := hq182
              refine zn_con hB zd231_185 rfl ?_
              refine zn_cne hB zd231_187 rfl (fun h187 => ?_) (fun h187 => ?_)
              · refine zn_con hB zd231_194 rfl ?_
                refine zn_iv1 hB (zh234 (e0 := e0) (D := D1) (said := said1) (w := w1) (pl := pl1) (cm := cm1) (wt := wt1) (d := 1) (len := len)) zd231_195 zxt234 rfl ⟨rfl, rfl, rfl, h1, by omega⟩ (fun r195 F195 G195 hq195 => ?_)
                obtain ⟨rfl, said2, wt2, rfl, rfl, ⟨l1, l2, l3⟩, l4⟩ := hq195
                obtain ⟨c1, c2, c3, c4, c5, c6, c7, c8⟩ := l1.1
                have hc2 : zp_cd w1 wt2 := zp_cd_cut hc c2 l2 (fun _ _ => rfl) (fun i i1 i2 => by have := l3 i i1 i2; omega)
                have hc3 := hc2.1
                have hpn2 := zp_pn_nn (w := w1) (a := wt2)
                refine zn_ald hB zd231_198 rfl rfl rfl ?_
                refine zn_ald hB zd231_199 rfl rfl rfl ?_
                refine zn_iv0 hB (zh217 (pl := pl1) (len := len) (tape := tape)) zd231_200 zxt217 rfl ⟨rfl, rfl, rfl, by omega, by omega⟩ (fun r200 F200 G200 hq200 => ?_)
                obtain ⟨rfl, rfl, rfl⟩ := hq200
                refine zn_con hB zd231_203 rfl ?_
                refine zn_cne hB zd231_205 rfl (fun h205 => ?_) (fun h205 => ?_)
                · refine zn_con hB zd231_213 rfl ?_
                  refine zn_iv1 hB (zh235 (cm := cm1) (said := said2) (wt := wt2) (w := w1) (pl := pl1)) zd231_215 zxt235 rfl ⟨rfl, rfl, rfl, by omega, by omega, by omega, by omega, by omega, by omega, by omega, by omega⟩ (fun r215 F215 G215 hq215 => ?_)
                  obtain ⟨rfl, rfl, rfl⟩ := hq215
                  refine zn_goto hB zd231_218 rfl ?_
                  have hz := zp_jump (pl2 := pl1 + 1) (op := 12) l1 (by omega) (by omega) (by omega)
                  exact ih.1 _ _ _ _ _ _ _ _ hz (zp_cd_up hc2 (by omega)) (fun k hk => by rw [zn_up_n (by omega), hD k hk]) (by omega) (by omega) (by omega)
                · refine zn_con hB zd231_208 rfl ?_
                  refine zn_goto hB zd231_210 rfl ?_
                  refine zn_iv1 hB (zh235 (cm := cm1) (said := said2) (wt := wt2) (w := w1) (pl := pl1)) zd231_215 zxt235 rfl ⟨rfl, rfl, rfl, by omega, by omega, by omega, by omega, by omega, by omega, by omega, by omega⟩ (fun r215 F215 G215 hq215 => ?_)
                  obtain ⟨rfl, rfl, rfl⟩ := hq215
                  refine zn_goto hB zd231_218 rfl ?_
                  have hz := zp_jump (pl2 := pl1 + 1) (op := 11) l1 (by omega) (by omega) (by omega)
                  exact ih.1 _ _ _ _ _ _ _ _ hz (zp_cd_up hc2 (by omega)) (fun k hk => by rw [zn_up_n (by omega), hD k hk]) (by omega) (by omega) (by omega)
              · refine zn_con hB zd231_190 rfl ?_
                refine zn_goto hB zd231_191 rfl ?_
                refine zn_iv1 hB (zh234 (e0 := e0) (D := D1) (said := said1) (w := w1) (pl := pl1) (cm := cm1) (wt := wt1) (d := 1) (len := len)) zd231_195 zxt234 rfl ⟨rfl, rfl, rfl, h1, by omega⟩ (fun r195 F195 G195 hq195 => ?_)
                obtain ⟨rfl, said2, wt2, rfl, rfl, ⟨l1, l2, l3⟩, l4⟩ := hq195
                obtain ⟨c1, c2, c3, c4, c5, c6, c7, c8⟩ := l1.1
                have hc2 : zp_cd w1 wt2 := zp_cd_cut hc c2 l2 (fun _ _ => rfl) (fun i i1 i2 => by have := l3 i i1 i2; omega)
                have hc3 := hc2.1
                have hpn2 := zp_pn_nn (w := w1) (a := wt2)
                refine zn_ald hB zd231_198 rfl rfl rfl ?_
                refine zn_ald hB zd231_199 rfl rfl rfl ?_
                refine zn_iv0 hB (zh217 (pl := pl1) (len := len) (tape := tape)) zd231_200 zxt217 rfl ⟨rfl, rfl, rfl, by omega, by omega⟩ (fun r200 F200 G200 hq200 => ?_)
                obtain ⟨rfl, rfl, rfl⟩ := hq200
                refine zn_con hB zd231_203 rfl ?_
                refine zn_cne hB zd231_205 rfl (fun h205 => ?_) (fun h205 => ?_)
                · refine zn_con hB zd231_213 rfl ?_
                  refine zn_iv1 hB (zh235 (cm := cm1) (said := said2) (wt := wt2) (w := w1) (pl := pl1)) zd231_215 zxt235 rfl ⟨rfl, rfl, rfl, by omega, by omega, by omega, by omega, by omega, by omega, by omega, by omega⟩ (fun r215 F215 G215 hq215 => ?_)
                  obtain ⟨rfl, rfl, rfl⟩ := hq215
                  refine zn_goto hB zd231_218 rfl ?_
                  have hz := zp_jump (pl2 := pl1 + 1) (op := 12) l1 (by omega) (by omega) (by omega)
                  exact ih.1 _ _ _ _ _ _ _ _ hz (zp_cd_up hc2 (by omega)) (fun k hk => by rw [zn_up_n (by omega), hD k hk]) (by omega) (by omega) (by omega)
                · refine zn_con hB zd231_208 rfl ?_
                  refine zn_goto hB zd231_210 rfl ?_
                  refine zn_iv1 hB (zh235 (cm := cm1) (said := said2) (wt := wt2) (w := w1) (pl := pl1)) zd231_215 zxt235 rfl ⟨rfl, rfl, rfl, by omega, by omega, by omega, by omega, by omega, by omega, by omega, by omega⟩ (fun r215 F215 G215 hq215 => ?_)
                  obtain ⟨rfl, rfl, rfl⟩ := hq215
                  refine zn_goto hB zd231_218 rfl ?_
                  have hz := zp_jump (pl2 := pl1 + 1) (op := 11) l1 (by omega) (by omega) (by omega)
                  exact ih.1 _ _ _ _ _ _ _ _ hz (zp_cd_up hc2 (by omega)) (fun k hk => by rw [zn_up_n (by omega), hD k hk]) (by omega) (by omega) (by omega)
            · refine zn_ald hB zd231_170 rfl rfl rfl ?_
              refine zn_con hB zd231_171 rfl ?_
              refine zn_ald hB zd231_172 rfl rfl rfl ?_
              refine zn_getf hB zd231_173 rfl rfl (fun q173 r173 => ?_)
              refine zn_iv2 hB zh219 zd231_176 zxt219 rfl ⟨rfl, rfl⟩ (fun r176 F176 G176 hq176 => ?_)
              obtain ⟨rfl, fl1, rfl, rfl⟩ := hq176
              exact hret _ _ _ _ _ zd231_179 (by constructor <;> decide) (Or.inl ⟨rfl, _, _, _, _, _, _, _, _, rfl, rfl⟩)
        · have hlt := zp_h_lt (tape := tape) (pl := pl1) (len := len) (by omega)
          refine zn_ald hB zd231_101 rfl rfl rfl ?_
          refine zn_con hB zd231_102 rfl ?_
          refine zn_iv1 hB (zh234 (e0 := e0) (D := D1) (said := said1) (w := w1) (pl := pl1) (cm := cm1) (wt := wt1) (d := 1) (len := len)) zd231_103 zxt234 rfl ⟨rfl, rfl, rfl, h1, by omega⟩ (fun r103 F103 G103 hq103 => ?_)
          obtain ⟨rfl, said2, wt2, rfl, rfl, ⟨l1, l2, l3⟩, l4⟩ := hq103
          obtain ⟨c1, c2, c3, c4, c5, c6, c7, c8⟩ := l1.1
          have hc2 : zp_cd w1 wt2 := zp_cd_cut hc c2 l2 (fun _ _ => rfl) (fun i i1 i2 => by have := l3 i i1 i2; omega)
          have hc3 := hc2.1
          have hpn2 := zp_pn_nn (w := w1) (a := wt2)
          have l5 := l4 (by omega)
          have hpop := (zp_pop l1 (by omega) (by omega)).1
          refine zn_ald hB zd231_106 rfl rfl rfl ?_
          refine zn_ald hB zd231_107 rfl rfl rfl ?_
          refine zn_getf hB zd231_108 rfl rfl (fun q108 r108 => ?_)
          refine zn_con hB zd231_111 rfl ?_
          refine zn_isub hB zd231_112 (by omega) (by omega) ?_
          refine zn_putf hB zd231_113 rfl rfl (fun h => by cases h) rfl ?_
          refine zn_ald hB zd231_116 rfl rfl rfl ?_
          refine zn_ald hB zd231_117 rfl rfl rfl ?_
          refine zn_getf hB zd231_118 rfl rfl (fun q118 r118 => ?_)
          refine zn_con hB zd231_121 rfl ?_
          refine zn_any hB zd231_122 rfl (fun v122 q122 r122 => ?_)
          refine zn_putf hB zd231_123 rfl rfl (fun h => by cases h) rfl ?_
          refine zn_ald hB zd231_126 rfl rfl rfl ?_
          refine zn_ald hB zd231_127 rfl rfl rfl ?_
          refine zn_getf hB zd231_128 rfl rfl (fun q128 r128 => ?_)
          refine zn_con hB zd231_131 rfl ?_
          refine zn_iadd hB zd231_132 (by omega) (by omega) ?_
          refine zn_putf hB zd231_133 rfl rfl (fun h => by cases h) rfl ?_
          refine zn_ald hB zd231_136 rfl rfl rfl ?_
          refine zn_getf hB zd231_137 rfl rfl (fun q137 r137 => ?_)
          refine zn_zne hB zd231_140 rfl (fun h140 => ?_) (fun h140 => ?_)
          · refine zn_ald hB zd231_145 rfl rfl rfl ?_
            refine zn_iv0 hB (zh233 (e0 := e0) (D := D1) (said := said2) (w := w1) (d := 1) (wt := wt2 - 1) (cm := cm1) (pl := pl1 + 1) (len := len)) zd231_146 zxt233 rfl ⟨rfl, rfl, rfl, zp_on hpop (by omega) (by omega), by omega⟩ (fun r146 F146 G146 hq146 => ?_)
            obtain ⟨rfl, D3, said3, op3, cm3, wt3, rfl, rfl, m1, m2, m3, m4, m5⟩ := hq146
            refine zn_goto hB zd231_149 rfl ?_
            exact ih.2 _ _ _ _ _ _ _ _ m1 (zp_cd_cut (w := w1) (wt := wt2 - 1) ⟨by omega, hc2.2.1, fun j j1 j2 => hc2.2.2 j j1 (by omega)⟩ m1.1.2.1 m3 (fun _ _ => rfl) (fun i i1 i2 => by have := m5 i i1 i2; omega)) (fun k hk => by rw [m2 k (by omega), hD k hk]) (by omega) (by omega) (by omega)
          · refine zn_con hB zd231_143 rfl ?_
            refine hret _ _ _ _ _ zd231_144 (by constructor <;> decide) (Or.inr ⟨rfl, D1, said2, w1, pl1 + 1, v122, cm1, nb1, ?_, rfl, ?_, hD, hcm, by omega⟩)
            · show (pl1 + 1) :: len :: fl :: v122 :: cm1 :: (wt2 - 1) :: nb1 :: Fr = _
              rw [h140]
            · have hz := zp_on (pl2 := pl1 + 1) hpop (by omega) (by omega)
              rw [h140] at hz
              exact hz
  refine zn_ald hB zd231_0 rfl rfl rfl ?_
  refine zn_iv0 hB (zh217 (pl := pl) (len := len) (tape := tape)) zd231_1 zxt217 rfl ⟨rfl, rfl, rfl, by omega, by omega⟩ (fun r1 F1 G1 hq1 => ?_)
  obtain ⟨rfl, rfl, rfl⟩ := hq1
  refine zn_con hB zd231_4 rfl ?_
  refine zn_ceq hB zd231_6 rfl (fun h6 => ?_) (fun h6 => ?_)
  · have hlt := zp_h_lt (tape := tape) (pl := pl) (len := len) (by omega)
    have hpn := zp_pn_nn (w := w) (a := 0)
    refine zn_ald hB zd231_19 rfl rfl rfl ?_
    refine zn_con hB zd231_20 rfl ?_
    refine zn_putf hB zd231_21 rfl rfl (fun h => by cases h) rfl ?_
    refine zn_ald hB zd231_24 rfl rfl rfl ?_
    refine zn_con hB zd231_25 rfl ?_
    refine zn_putf hB zd231_26 rfl rfl (fun h => by cases h) rfl ?_
    refine zn_ald hB zd231_29 rfl rfl rfl ?_
    refine zn_con hB zd231_30 rfl ?_
    refine zn_iv1 hB (zh222 (pl := pl) (wt := 0) (w := w)) zd231_32 zxt222 rfl ⟨rfl, rfl, rfl, by omega, by omega, by omega, by omega, by omega, by omega⟩ (fun r32 F32 G32 hq32 => ?_)
    rcases hq32 with ⟨rfl, f0, rfl, rfl⟩ | ⟨rfl, op2, rfl, rfl⟩
    · refine zn_zne hB zd231_35 rfl (fun h35 => ?_) (fun h35 => ?_)
      · exfalso; omega
      · refine zn_con hB zd231_38 rfl ?_
        exact hret _ _ _ _ _ zd231_39 (by constructor <;> decide) (Or.inl ⟨rfl, _, _, _, _, _, _, _, _, rfl, rfl⟩)
    · refine zn_zne hB zd231_35 rfl (fun h35 => ?_) (fun h35 => ?_)
      · have hz := zp_push (pl2 := pl + 1) (x := 1048576 * 13) hs (by omega) (by rw [if_neg (by omega)]; omega)
        have hcd : zp_cd (zn_up w 0 (1048576 * 13)) (0 + 1) := ⟨by omega, by rw [zn_up_s]; omega, fun j j1 j2 => by
          have : j = 0 := by omega
          rw [this, zn_up_s]; omega⟩
        exact (key ((len - pl).toNat + 1)).1 _ _ _ _ _ _ _ _ hz hcd (fun _ _ => rfl) (by omega) (by omega) (by omega)
      · exfalso; omega
  · refine zn_ald hB zd231_9 rfl rfl rfl ?_
    refine zn_con hB zd231_10 rfl ?_
    refine zn_ald hB zd231_11 rfl rfl rfl ?_
    refine zn_getf hB zd231_12 rfl rfl (fun q12 r12 => ?_)
    refine zn_iv2 hB zh219 zd231_15 zxt219 rfl ⟨rfl, rfl⟩ (fun r15 F15 G15 hq15 => ?_)
    obtain ⟨rfl, fl1, rfl, rfl⟩ := hq15
    exact hret _ _ _ _ _ zd231_18 (by constructor <;> decide) (Or.inl ⟨rfl, _, _, _, _, _, _, _, _, rfl, rfl⟩)
end ZREAD5
end
