/-! Bits. -/
theorem z_nat {x : Int32} (h : 0 ≤ x.toInt) : x.toInt = (x.toBitVec.toNat : Int) := by
  have h1 : x.toInt = x.toBitVec.toInt := rfl
  rw [h1] at h ⊢
  rw [BitVec.toInt_eq_toNat_cond] at h ⊢
  have := x.toBitVec.isLt
  split <;> rename_i q
  · rfl
  · rw [if_neg q] at h; omega
theorem z_natlt {x : Int32} (h : 0 ≤ x.toInt) : x.toBitVec.toNat < 2147483648 := by
  have := z_nat h; have := z_hi x; omega
theorem z_ofnat {x : Int32} (h : x.toBitVec.toNat < 2147483648) : x.toInt = (x.toBitVec.toNat : Int) := by
  have h1 : x.toInt = x.toBitVec.toInt := rfl
  rw [h1, BitVec.toInt_eq_toNat_cond, if_pos (by omega)]
theorem z_negnat {x : Int32} : x.toInt < 0 ↔ 2147483648 ≤ x.toBitVec.toNat := by
  have h1 : x.toInt = x.toBitVec.toInt := rfl
  rw [h1, BitVec.toInt_eq_toNat_cond]
  have := x.toBitVec.isLt
  split <;> omega
theorem z_and_nat (x y : Int32) : (x &&& y).toBitVec.toNat = x.toBitVec.toNat &&& y.toBitVec.toNat := by
  rw [Int32.toBitVec_and, BitVec.toNat_and]
theorem z_or_nat (x y : Int32) : (x ||| y).toBitVec.toNat = x.toBitVec.toNat ||| y.toBitVec.toNat := by
  rw [Int32.toBitVec_or, BitVec.toNat_or]
theorem z_xor_nat (x y : Int32) : (x ^^^ y).toBitVec.toNat = x.toBitVec.toNat ^^^ y.toBitVec.toNat := by
  rw [Int32.toBitVec_xor, BitVec.toNat_xor]
def z_and (a b : zR) : zR := if a.1 = a.2 ∧ b.1 = b.2 ∧ 0 ≤ a.1 ∧ 0 ≤ b.1 then (((a.1.toNat &&& b.1.toNat : Nat) : Int), ((a.1.toNat &&& b.1.toNat : Nat) : Int)) else if 0 ≤ a.1 then (0, if 0 ≤ b.1 then z_min a.2 b.2 else a.2) else if 0 ≤ b.1 then (0, b.2) else if a.1 = -1 ∧ a.2 = -1 then b else if b.1 = -1 ∧ b.2 = -1 then a else z_full
theorem z_m1 {x : Int32} (h : x.toInt = -1) : x = -1 := Int32.toInt_inj.mp (by rw [h]; rfl)
theorem z_and_ok {a b : zR} {x y : Int32} (hx : z_in a x) (hy : z_in b y) : z_in (z_and a b) (x &&& y) := by
  have l1 : x.toBitVec.toNat &&& y.toBitVec.toNat ≤ x.toBitVec.toNat := Nat.and_le_left
  have l2 : x.toBitVec.toNat &&& y.toBitVec.toNat ≤ y.toBitVec.toNat := Nat.and_le_right
  have e := z_and_nat x y
  obtain ⟨x1, x2⟩ := hx
  obtain ⟨y1, y2⟩ := hy
  unfold z_and
  split
  · rename_i h
    have nx := z_nat (x := x) (by omega)
    have ny := z_nat (x := y) (by omega)
    have hx3 : a.1.toNat = x.toBitVec.toNat := by omega
    have hy3 : b.1.toNat = y.toBitVec.toNat := by omega
    have := z_natlt (x := x) (by omega)
    have q := z_ofnat (x := x &&& y) (by omega)
    rw [hx3, hy3, ← e]
    exact ⟨by rw [q]; exact Int.le_refl _, by rw [q]; exact Int.le_refl _⟩
  · split
    · have nx := z_nat (x := x) (by omega)
      have := z_natlt (x := x) (by omega)
      have q := z_ofnat (x := x &&& y) (by omega)
      refine ⟨by show (0 : Int) ≤ _; omega, ?_⟩
      show _ ≤ (if 0 ≤ b.1 then z_min a.2 b.2 else a.2)
      split
      · have ny := z_nat (x := y) (by omega)
        unfold z_min
        split <;> omega
      · omega
    · split
      · have ny := z_nat (x := y) (by omega)
        have := z_natlt (x := y) (by omega)
        have q := z_ofnat (x := x &&& y) (by omega)
        exact ⟨by show (0 : Int) ≤ _; omega, by show _ ≤ b.2; omega⟩
      · split
        · rename_i h
          have := z_m1 (x := x) (by omega)
          subst this
          have : (-1 : Int32) &&& y = y := by apply Int32.toBitVec_inj.mp; rw [Int32.toBitVec_and]; exact BitVec.allOnes_and
          rw [this]; exact ⟨y1, y2⟩
        · split
          · rename_i h
            have := z_m1 (x := y) (by omega)
            subst this
            have : x &&& (-1 : Int32) = x := by apply Int32.toBitVec_inj.mp; rw [Int32.toBitVec_and]; exact BitVec.and_allOnes
            rw [this]; exact ⟨x1, x2⟩
          · exact z_in_full _
/-- the least 2^k - 1 that is no less -/
def z_upF : Nat → Nat → Nat → Nat
  | 0, _, _ => 2147483648
  | f + 1, p, n => if n < p then p else z_upF f (p + p) n
def z_up (n : Nat) : Nat := z_upF 32 1 n
theorem z_upF_pow : ∀ f k n : Nat, k + f = 32 → ∃ j, z_upF f (2 ^ k) n = 2 ^ j ∧ (n < 2 ^ j ∨ j = 31)
  | 0, k, n, h => ⟨31, rfl, Or.inr rfl⟩
  | f + 1, k, n, h => by
    unfold z_upF
    split
    · exact ⟨k, rfl, Or.inl (by assumption)⟩
    · have := z_upF_pow f (k + 1) n (by omega)
      rwa [Nat.pow_succ, Nat.mul_two] at this
theorem z_up_pow {n : Nat} (h : n < 2147483648) : ∃ j, z_up n = 2 ^ j ∧ n < 2 ^ j := by
  obtain ⟨j, e, q⟩ := z_upF_pow 32 0 n rfl
  refine ⟨j, e, ?_⟩
  rcases q with q | q
  · exact q
  · subst q; exact h
theorem z_up_mono {n m : Nat} (h : n < 2147483648) (hm : m ≤ n) : m < z_up n := by
  obtain ⟨j, e, q⟩ := z_up_pow h
  omega
def z_or (a b : zR) : zR := if 0 ≤ a.1 ∧ 0 ≤ b.1 ∧ a.2 < 2147483648 ∧ b.2 < 2147483648 then (z_max a.1 b.1, ((z_up (z_max a.2 b.2).toNat : Nat) : Int) - 1) else if b.1 = 0 ∧ b.2 = 0 then a else if a.1 = 0 ∧ a.2 = 0 then b else z_full
theorem z_up_top (n : Nat) : z_up n ≤ 2147483648 := by
  obtain ⟨j, e, q⟩ := z_upF_pow 32 0 n rfl
  by_cases h : n < 2147483648
  · have key : ∀ f k : Nat, k + f = 32 → z_upF f (2 ^ k) n ≤ 2147483648 := by
      intro f
      induction f with
      | zero => intro k hk; exact Nat.le_refl _
      | succ f ih =>
        intro k hk
        unfold z_upF
        split
        · have : 2 ^ k ≤ 2 ^ 31 := Nat.pow_le_pow_right (by omega) (by omega)
          omega
        · have := ih (k + 1) (by omega)
          rwa [Nat.pow_succ, Nat.mul_two] at this
    exact key 32 0 rfl
  · have key : ∀ f k : Nat, k + f = 32 → z_upF f (2 ^ k) n ≤ 2147483648 := by
      intro f
      induction f with
      | zero => intro k hk; exact Nat.le_refl _
      | succ f ih =>
        intro k hk
        unfold z_upF
        split
        · have : 2 ^ k ≤ 2 ^ 31 := Nat.pow_le_pow_right (by omega) (by omega)
          omega
        · have := ih (k + 1) (by omega)
          rwa [Nat.pow_succ, Nat.mul_two] at this
    exact key 32 0 rfl
theorem z_int0 {x : Int32} (h : x.toInt = 0) : x = 0 := Int32.toInt_inj.mp (by rw [h]; rfl)
theorem z_or_ok {a b : zR} {x y : Int32} (hx : z_in a x) (hy : z_in b y) : z_in (z_or a b) (x ||| y) := by
  have e := z_or_nat x y
  obtain ⟨x1, x2⟩ := hx
  obtain ⟨y1, y2⟩ := hy
  unfold z_or
  split
  · rename_i h
    have nx := z_nat (x := x) (by omega)
    have ny := z_nat (x := y) (by omega)
    have m1 := z_max_l a.2 b.2
    have m2 := z_max_r a.2 b.2
    have hm : (z_max a.2 b.2).toNat < 2147483648 := by
      have : z_max a.2 b.2 < 2147483648 := by unfold z_max; split <;> omega
      omega
    obtain ⟨j, ej, q⟩ := z_up_pow hm
    have t := z_up_top (z_max a.2 b.2).toNat
    have hlt : x.toBitVec.toNat ||| y.toBitVec.toNat < 2 ^ j := Nat.or_lt_two_pow (by omega) (by omega)
    have k1 : x.toBitVec.toNat ≤ x.toBitVec.toNat ||| y.toBitVec.toNat := Nat.left_le_or
    have k2 : y.toBitVec.toNat ≤ x.toBitVec.toNat ||| y.toBitVec.toNat := Nat.right_le_or
    have w := z_ofnat (x := x ||| y) (by omega)
    refine ⟨?_, by show _ ≤ ((z_up (z_max a.2 b.2).toNat : Nat) : Int) - 1; omega⟩
    show z_max a.1 b.1 ≤ _
    unfold z_max
    split <;> omega
  · split
    · have := z_int0 (x := y) (by omega)
      subst this
      have : x ||| (0 : Int32) = x := by apply Int32.toBitVec_inj.mp; rw [Int32.toBitVec_or]; exact BitVec.or_zero
      rw [this]; exact ⟨x1, x2⟩
    · split
      · have := z_int0 (x := x) (by omega)
        subst this
        have : (0 : Int32) ||| y = y := by apply Int32.toBitVec_inj.mp; rw [Int32.toBitVec_or]; exact BitVec.zero_or
        rw [this]; exact ⟨y1, y2⟩
      · exact z_in_full _
def z_xor (a b : zR) : zR := if 0 ≤ a.1 ∧ 0 ≤ b.1 ∧ a.2 < 2147483648 ∧ b.2 < 2147483648 then (0, ((z_up (z_max a.2 b.2).toNat : Nat) : Int) - 1) else if b.1 = -1 ∧ b.2 = -1 then (-1 - a.2, -1 - a.1) else if 0 ≤ a.1 ∧ b.2 < 0 then (-2147483648, -1) else if a.2 < 0 ∧ 0 ≤ b.1 then (-2147483648, -1) else if a.2 < 0 ∧ b.2 < 0 then (0, 2147483647) else z_full
theorem z_msb (x : Int32) : x.toInt < 0 ↔ x.toBitVec.msb = true := by
  have h1 : x.toInt = x.toBitVec.toInt := rfl
  rw [h1, BitVec.msb_eq_toInt]; simp
theorem z_xor_ok {a b : zR} {x y : Int32} (hx : z_in a x) (hy : z_in b y) : z_in (z_xor a b) (x ^^^ y) := by
  have e := z_xor_nat x y
  obtain ⟨x1, x2⟩ := hx
  obtain ⟨y1, y2⟩ := hy
  have hz1 := z_lo (x ^^^ y)
  have hz2 := z_hi (x ^^^ y)
  have ms : (x ^^^ y).toInt < 0 ↔ (x.toInt < 0 ∧ ¬ y.toInt < 0) ∨ (¬ x.toInt < 0 ∧ y.toInt < 0) := by
    rw [z_msb, z_msb x, z_msb y, Int32.toBitVec_xor, BitVec.msb_xor]
    cases x.toBitVec.msb <;> cases y.toBitVec.msb <;> simp
  unfold z_xor
  split
  · rename_i h
    have nx := z_nat (x := x) (by omega)
    have ny := z_nat (x := y) (by omega)
    have m1 := z_max_l a.2 b.2
    have m2 := z_max_r a.2 b.2
    have hm : (z_max a.2 b.2).toNat < 2147483648 := by
      have : z_max a.2 b.2 < 2147483648 := by unfold z_max; split <;> omega
      omega
    obtain ⟨j, ej, q⟩ := z_up_pow hm
    have t := z_up_top (z_max a.2 b.2).toNat
    have hlt : x.toBitVec.toNat ^^^ y.toBitVec.toNat < 2 ^ j := Nat.xor_lt_two_pow (by omega) (by omega)
    have w := z_ofnat (x := x ^^^ y) (by omega)
    exact ⟨by show (0 : Int) ≤ _; omega, by show _ ≤ ((z_up (z_max a.2 b.2).toNat : Nat) : Int) - 1; omega⟩
  · split
    · have := z_m1 (x := y) (by omega)
      subst this
      have k : (x ^^^ (-1 : Int32)).toInt = -1 - x.toInt := by
        have h2 : (x ^^^ (-1 : Int32)) = ~~~x := by apply Int32.toBitVec_inj.mp; rw [Int32.toBitVec_xor, Int32.toBitVec_not]; exact BitVec.xor_allOnes
        rw [h2]
        have := Int32.toInt_not x
        have hb := z_bmod (v := -x.toInt - 1) (by have := z_hi x; omega) (by have := z_lo x; omega)
        omega
      exact ⟨by rw [k]; show -1 - a.2 ≤ _; omega, by rw [k]; show _ ≤ -1 - a.1; omega⟩
    · split
      · exact ⟨hz1, by show _ ≤ (-1 : Int); have := ms.mpr (Or.inr ⟨by omega, by omega⟩); omega⟩
      · split
        · exact ⟨hz1, by show _ ≤ (-1 : Int); have := ms.mpr (Or.inl ⟨by omega, by omega⟩); omega⟩
        · split
          · refine ⟨?_, hz2⟩
            show (0 : Int) ≤ _
            rcases Int.lt_or_le (x ^^^ y).toInt 0 with q | q
            · rcases ms.mp q with ⟨_, w⟩ | ⟨w, _⟩ <;> omega
            · exact q
          · exact z_in_full _
