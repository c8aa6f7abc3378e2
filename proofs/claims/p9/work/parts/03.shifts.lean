/-! Shifts. -/
theorem z_sm : ∀ k, k < 32 → ((nI k).toBitVec.smod 32).toNat = k := by decide +kernel
theorem z_sm31 : ∀ k, k < 32 → ((nI k &&& 31).toBitVec.smod 32).toNat = k := by decide +kernel
theorem z_um31 : ∀ k, k < 32 → (((nI k).toUInt32 &&& Int32.toUInt32 31).toBitVec % 32).toNat = k := by decide +kernel
theorem z_isI {x : Int32} (h : 0 ≤ x.toInt) : x = nI x.toInt.toNat := by
  apply Int32.toInt_inj.mp
  have := z_hi x
  rw [nI_toInt (by omega)]
  omega
/-- how far it is shifted -/
theorem z_amt (y : Int32) : ∃ k, k < 32 ∧ ((y &&& 31).toBitVec.smod 32).toNat = k ∧ (0 ≤ y.toInt → y.toInt < 32 → y.toInt = k) := by
  by_cases h : 0 ≤ y.toInt ∧ y.toInt < 32
  · have e := z_isI h.1
    refine ⟨y.toInt.toNat, by omega, ?_, fun _ _ => by omega⟩
    conv => lhs; rw [e]
    exact z_sm31 _ (by omega)
  · obtain ⟨j, hj, e⟩ := pk_andE y (m := 31) 5 rfl
    exact ⟨j, hj, by rw [e]; exact z_sm j hj, fun h1 h2 => absurd ⟨h1, h2⟩ h⟩
def z_shl (a b : zR) : zR := if 0 ≤ a.1 ∧ 0 ≤ b.1 ∧ b.2 < 31 ∧ a.2 * ((2 ^ b.2.toNat : Nat) : Int) ≤ 2147483647 then (a.1 * ((2 ^ b.1.toNat : Nat) : Int), a.2 * ((2 ^ b.2.toNat : Nat) : Int)) else if a.1 = 0 ∧ a.2 = 0 then (0, 0) else z_full
theorem z_shl_ok {a b : zR} {x y : Int32} (hx : z_in a x) (hy : z_in b y) : z_in (z_shl a b) (x <<< (y &&& 31)) := by
  obtain ⟨k, hk, ek, hk2⟩ := z_amt y
  have e := pk_shl x (y &&& 31) k ek
  obtain ⟨x1, x2⟩ := hx
  obtain ⟨y1, y2⟩ := hy
  unfold z_shl
  split
  · rename_i h
    obtain ⟨h1, h2, h3, h4⟩ := h
    have hyk := hk2 (by omega) (by omega)
    have nx := z_nat (x := x) (by omega)
    have p1 : 2 ^ k ≤ 2 ^ b.2.toNat := Nat.pow_le_pow_right (by omega) (by omega)
    have p2 : 2 ^ b.1.toNat ≤ 2 ^ k := Nat.pow_le_pow_right (by omega) (by omega)
    have m1 : (x.toBitVec.toNat : Int) * ((2 ^ k : Nat) : Int) ≤ a.2 * ((2 ^ b.2.toNat : Nat) : Int) :=
      Int.mul_le_mul (by omega) (by exact_mod_cast p1) (Int.natCast_nonneg _) (by omega)
    have m2 : a.1 * ((2 ^ b.1.toNat : Nat) : Int) ≤ (x.toBitVec.toNat : Int) * ((2 ^ k : Nat) : Int) :=
      Int.mul_le_mul (by omega) (by exact_mod_cast p2) (Int.natCast_nonneg _) (by omega)
    have m3 : ((x.toBitVec.toNat * 2 ^ k : Nat) : Int) = (x.toBitVec.toNat : Int) * ((2 ^ k : Nat) : Int) := Int.natCast_mul _ _
    have m4 : x.toBitVec.toNat * 2 ^ k < 2147483648 := by omega
    rw [Nat.mod_eq_of_lt (by omega)] at e
    have w := z_ofnat (x := x <<< (y &&& 31)) (by omega)
    exact ⟨by rw [w, e, m3]; exact m2, by rw [w, e, m3]; exact m1⟩
  · split
    · have := z_int0 (x := x) (by omega)
      subst this
      have z0 : (0 : Int32).toBitVec.toNat = 0 := rfl
      rw [z0, Nat.zero_mul, Nat.zero_mod] at e
      have w := z_ofnat (x := (0 : Int32) <<< (y &&& 31)) (by omega)
      exact ⟨by rw [w, e]; exact Int.le_refl _, by rw [w, e]; exact Int.le_refl _⟩
    · exact z_in_full _
def z_shr (a b : zR) : zR := if 0 ≤ b.1 ∧ b.2 < 32 then (if 0 ≤ a.1 then a.1 / ((2 ^ b.2.toNat : Nat) : Int) else a.1 / ((2 ^ b.1.toNat : Nat) : Int), if 0 ≤ a.2 then a.2 / ((2 ^ b.1.toNat : Nat) : Int) else a.2 / ((2 ^ b.2.toNat : Nat) : Int)) else (if 0 ≤ a.1 then 0 else a.1, if 0 ≤ a.2 then a.2 else -1)
theorem z_ediv_anti {v p q : Int} (hv : 0 ≤ v) (hp : 0 < p) (h : p ≤ q) : v / q ≤ v / p := by
  rw [Int.le_ediv_iff_mul_le hp]
  have h1 : v / q * p ≤ v / q * q := Int.mul_le_mul_of_nonneg_left h (Int.ediv_nonneg hv (by omega))
  have h2 : v / q * q ≤ v := Int.ediv_mul_le _ (by omega)
  omega
theorem z_ediv_mono {v p q : Int} (hv : v < 0) (hp : 0 < p) (h : p ≤ q) : v / p ≤ v / q := by
  rw [Int.le_ediv_iff_mul_le (by omega)]
  have h0 : v / p < 0 := Int.ediv_neg_of_neg_of_pos hv hp
  have h1 : v / p * q ≤ v / p * p := Int.mul_le_mul_of_nonpos_left (by omega) h
  have h2 : v / p * p ≤ v := Int.ediv_mul_le _ (by omega)
  omega
theorem z_shr_val {x y : Int32} {k : Nat} (ek : ((y &&& 31).toBitVec.smod 32).toNat = k) : (x >>> (y &&& 31)).toInt = x.toInt / ((2 ^ k : Nat) : Int) := by
  rw [pk_shr x (y &&& 31) k ek, Int.shiftRight_eq_div_pow]
theorem z_shr_ok {a b : zR} {x y : Int32} (hx : z_in a x) (hy : z_in b y) : z_in (z_shr a b) (x >>> (y &&& 31)) := by
  obtain ⟨k, hk, ek, hk2⟩ := z_amt y
  have e := z_shr_val (x := x) ek
  obtain ⟨x1, x2⟩ := hx
  obtain ⟨y1, y2⟩ := hy
  have pk : (0 : Int) < ((2 ^ k : Nat) : Int) := by exact_mod_cast Nat.two_pow_pos k
  unfold z_shr
  split
  · rename_i h
    have hyk := hk2 (by omega) (by omega)
    have p1 : ((2 ^ k : Nat) : Int) ≤ ((2 ^ b.2.toNat : Nat) : Int) := by exact_mod_cast (Nat.pow_le_pow_right (by omega) (by omega) : 2 ^ k ≤ 2 ^ b.2.toNat)
    have p2 : ((2 ^ b.1.toNat : Nat) : Int) ≤ ((2 ^ k : Nat) : Int) := by exact_mod_cast (Nat.pow_le_pow_right (by omega) (by omega) : 2 ^ b.1.toNat ≤ 2 ^ k)
    have q0 : (0 : Int) < ((2 ^ b.1.toNat : Nat) : Int) := by exact_mod_cast Nat.two_pow_pos _
    refine ⟨?_, ?_⟩
    · rw [e]
      show (if 0 ≤ a.1 then _ else _) ≤ _
      split
      · exact Int.le_trans (z_ediv_anti (by omega) pk p1) (Int.ediv_le_ediv pk x1)
      · exact Int.le_trans (z_ediv_mono (by omega) q0 p2) (Int.ediv_le_ediv pk x1)
    · rw [e]
      show _ ≤ (if 0 ≤ a.2 then _ else _)
      split
      · exact Int.le_trans (Int.ediv_le_ediv pk x2) (z_ediv_anti (by omega) q0 p2)
      · exact Int.le_trans (Int.ediv_le_ediv pk x2) (z_ediv_mono (by omega) pk p1)
  · refine ⟨?_, ?_⟩
    · rw [e]
      show (if 0 ≤ a.1 then (0 : Int) else a.1) ≤ _
      split
      · exact Int.ediv_nonneg (by omega) (by omega)
      · rcases Int.lt_or_le x.toInt 0 with q | q
        · have := z_ediv_mono (v := x.toInt) (p := 1) (q := ((2 ^ k : Nat) : Int)) q (by omega) (by omega)
          rw [Int.ediv_one] at this; omega
        · have := Int.ediv_nonneg q (Int.le_of_lt pk); omega
    · rw [e]
      show _ ≤ (if 0 ≤ a.2 then a.2 else (-1 : Int))
      split
      · rcases Int.lt_or_le x.toInt 0 with q | q
        · have := Int.ediv_neg_of_neg_of_pos q pk; omega
        · have := Int.ediv_le_self ((2 ^ k : Nat) : Int) q; omega
      · have := Int.ediv_neg_of_neg_of_pos (show x.toInt < 0 by omega) pk; omega
def z_ushr (a b : zR) : zR := if 0 ≤ a.1 then z_shr a b else if b.1 = b.2 ∧ 0 < b.1 ∧ b.1 < 32 then (0, ((4294967295 / 2 ^ b.1.toNat : Nat) : Int)) else z_full
theorem z_ushr_ok {a b : zR} {x y : Int32} (hx : z_in a x) (hy : z_in b y) : z_in (z_ushr a b) ((x.toUInt32 >>> (y.toUInt32 &&& Int32.toUInt32 31)).toInt32) := by
  have amt : ∀ k : Nat, k < 32 → ((y &&& 31).toBitVec.smod 32).toNat = k → ((y.toUInt32 &&& Int32.toUInt32 31).toBitVec % 32).toNat = k := by
    intro k hk h
    have h1 : (y.toUInt32 &&& Int32.toUInt32 31).toBitVec = (y &&& 31).toBitVec := rfl
    rw [h1]
    obtain ⟨j, hj, e⟩ := pk_andE y (m := 31) 5 rfl
    rw [e] at h ⊢
    rw [z_sm j hj] at h
    subst h
    have : ∀ k, k < 32 → ((nI k).toBitVec % 32).toNat = k := by decide +kernel
    exact this j hj
  obtain ⟨k, hk, ek, hk2⟩ := z_amt y
  have e := pk_ushr x y k (amt k hk ek)
  unfold z_ushr
  split
  · rename_i h
    have h0 : 0 ≤ x.toInt := by have := hx.1; omega
    have w := z_shr_ok hx hy
    have nx := z_nat h0
    have lx := z_natlt h0
    have dl : x.toBitVec.toNat / 2 ^ k ≤ x.toBitVec.toNat := Nat.div_le_self _ _
    have q := z_ofnat (x := (x.toUInt32 >>> (y.toUInt32 &&& Int32.toUInt32 31)).toInt32) (by rw [e]; omega)
    have same : (x >>> (y &&& 31)) = (x.toUInt32 >>> (y.toUInt32 &&& Int32.toUInt32 31)).toInt32 := by
      apply Int32.toInt_inj.mp
      rw [z_shr_val ek, q, e, nx]
      exact (Int.natCast_ediv _ _).symm
    rw [← same]; exact w
  · split
    · rename_i h
      obtain ⟨h1, h2, h3⟩ := h
      obtain ⟨y1, y2⟩ := hy
      have hyk := hk2 (by omega) (by omega)
      have kk : b.1.toNat = k := by omega
      have xl := x.toBitVec.isLt
      have p : x.toBitVec.toNat / 2 ^ k ≤ 4294967295 / 2 ^ k := Nat.div_le_div_right (by omega)
      have p2 : 4294967295 / 2 ^ k ≤ 4294967295 / 2 ^ 1 := Nat.div_le_div_left (Nat.pow_le_pow_right (by omega) (by omega)) (by omega)
      have q := z_ofnat (x := (x.toUInt32 >>> (y.toUInt32 &&& Int32.toUInt32 31)).toInt32) (by rw [e]; omega)
      rw [kk]
      exact ⟨by rw [q]; exact Int.natCast_nonneg _, by rw [q, e]; exact Int.ofNat_le.mpr p⟩
    · exact z_in_full _
def z_i2b (a : zR) : zR := if -128 ≤ a.1 ∧ a.2 < 128 then a else (-128, 127)
theorem z_i2b_ok {a : zR} {x : Int32} (hx : z_in a x) : z_in (z_i2b a) (x.toInt8.toInt32) := by
  have e : (x.toInt8.toInt32).toInt = x.toInt.bmod (2 ^ 8) := by rw [Int8.toInt_toInt32, Int32.toInt_toInt8]
  unfold z_i2b
  split
  · rename_i h
    have : x.toInt.bmod (2 ^ 8) = x.toInt := by
      have := hx.1; have := hx.2
      apply Int.bmod_eq_of_le <;> omega
    exact ⟨by rw [e, this]; exact hx.1, by rw [e, this]; exact hx.2⟩
  · have h1 := Int.le_bmod (x := x.toInt) (m := 2 ^ 8) (by decide)
    have h2 := Int.bmod_lt (x := x.toInt) (m := 2 ^ 8) (by decide)
    exact ⟨by rw [e]; show (-128 : Int) ≤ _; omega, by rw [e]; show _ ≤ (127 : Int); omega⟩
def z_i2c (a : zR) : zR := if 0 ≤ a.1 ∧ a.2 ≤ 65535 then a else (0, 65535)
theorem z_i2c_ok {a : zR} {x : Int32} (hx : z_in a x) : z_in (z_i2c a) ((x.toUInt32 % 65536).toInt32) := by
  have e : ((x.toUInt32 % 65536).toInt32).toBitVec.toNat = x.toBitVec.toNat % 65536 := by
    show (x.toUInt32 % 65536).toNat = _
    rw [UInt32.toNat_mod]
    rfl
  have hl := Nat.mod_lt x.toBitVec.toNat (show 0 < 65536 by decide)
  have q := z_ofnat (x := (x.toUInt32 % 65536).toInt32) (by rw [e]; omega)
  rw [e] at q
  unfold z_i2c
  split
  · rename_i h
    have h0 : 0 ≤ x.toInt := by have := hx.1; omega
    have nx := z_nat h0
    have h1 := hx.1
    have h2 := hx.2
    have : x.toBitVec.toNat % 65536 = x.toBitVec.toNat := Nat.mod_eq_of_lt (by omega)
    rw [this] at q
    exact ⟨by rw [q]; omega, by rw [q]; omega⟩
  · exact ⟨by rw [q]; show (0 : Int) ≤ _; omega, by rw [q]; show _ ≤ (65535 : Int); omega⟩
