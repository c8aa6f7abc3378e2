/-! Sets as bits. -/
def zb (a : Int) (j : Nat) : Bool := (Int32.ofInt a).toBitVec.getLsbD j
def z24 (a : Int) : Prop := 0 ≤ a ∧ a ≤ 16777215
theorem zb_ev {op : Int32 → Int32 → Int32} {a b : Int} {j : Nat} : zb (zi_ev op a b) j = (op (Int32.ofInt a) (Int32.ofInt b)).toBitVec.getLsbD j := by
  unfold zb zi_ev
  rw [Int32.ofInt_toInt]
theorem zb_and {a b : Int} {j : Nat} : zb (zi_and a b) j = (zb a j && zb b j) := by
  unfold zi_and
  rw [zb_ev]
  show ((Int32.ofInt a).toBitVec &&& (Int32.ofInt b).toBitVec).getLsbD j = _
  rw [BitVec.getLsbD_and]; rfl
theorem zb_or {a b : Int} {j : Nat} : zb (zi_or a b) j = (zb a j || zb b j) := by
  unfold zi_or
  rw [zb_ev]
  show ((Int32.ofInt a).toBitVec ||| (Int32.ofInt b).toBitVec).getLsbD j = _
  rw [BitVec.getLsbD_or]; rfl
theorem zb_xor {a b : Int} {j : Nat} : zb (zi_xor a b) j = (zb a j ^^ zb b j) := by
  unfold zi_xor
  rw [zb_ev]
  show ((Int32.ofInt a).toBitVec ^^^ (Int32.ofInt b).toBitVec).getLsbD j = _
  rw [BitVec.getLsbD_xor]; rfl
theorem zb_ge {a : Int} {j : Nat} (h : 32 ≤ j) : zb a j = false := BitVec.getLsbD_of_ge _ _ h
theorem zb_m1 {j : Nat} (h : j < 32) : zb (-1) j = true := by
  have hd : ∀ j, j < 32 → zb (-1) j = true := by decide +kernel
  exact hd j h
theorem zb_0 {j : Nat} : zb 0 j = false := by
  by_cases h : j < 32
  · have hd : ∀ j, j < 32 → zb 0 j = false := by decide +kernel
    exact hd j h
  · exact zb_ge (by omega)
theorem zb_1 {j : Nat} : zb 1 j = decide (j = 0) := by
  by_cases h : j < 32
  · have hd : ∀ j, j < 32 → zb 1 j = decide (j = 0) := by decide +kernel
    exact hd j h
  · rw [zb_ge (by omega), decide_eq_false (by omega)]
theorem zb_not {a : Int} {j : Nat} (h : j < 32) : zb (zi_xor a (-1)) j = !zb a j := by
  rw [zb_xor, zb_m1 h, Bool.xor_true]
theorem zb_shl {i : Int} {j : Nat} (h1 : 0 ≤ i) (h2 : i < 32) : zb (zi_shl 1 i) j = decide (j = i.toNat) := by
  have hd : ∀ k : Nat, k < 32 → ∀ j : Nat, j < 32 → zb (zi_shl 1 (k : Int)) j = decide (j = k) := by decide +kernel
  by_cases h : j < 32
  · have := hd i.toNat (by omega) j h
    rwa [show ((i.toNat : Nat) : Int) = i by omega] at this
  · rw [zb_ge (by omega), decide_eq_false (by omega)]
theorem zi_ev_in {op : Int32 → Int32 → Int32} {a b : Int} : -2147483648 ≤ zi_ev op a b ∧ zi_ev op a b ≤ 2147483647 := by
  unfold zi_ev
  have h1 := Int32.le_toInt (op (Int32.ofInt a) (Int32.ofInt b))
  have h2 := Int32.toInt_lt (op (Int32.ofInt a) (Int32.ofInt b))
  constructor <;> omega
theorem zb_ext {a b : Int} (a1 : -2147483648 ≤ a) (a2 : a ≤ 2147483647) (b1 : -2147483648 ≤ b) (b2 : b ≤ 2147483647) (h : ∀ j, j < 32 → zb a j = zb b j) : a = b := by
  have e : Int32.ofInt a = Int32.ofInt b := Int32.toBitVec_inj.mp (BitVec.eq_of_getLsbD_eq fun i hi => h i hi)
  have := congrArg Int32.toInt e
  rwa [zi_of a1 a2, zi_of b1 b2] at this
theorem zb_tb {t : Int} {j : Nat} (h1 : 0 ≤ t) (h2 : t ≤ 2147483647) : zb t j = t.toNat.testBit j := by
  unfold zb BitVec.getLsbD
  rw [zi_nat h1 h2]
theorem zb_tb2 {t i : Int} (h1 : 0 ≤ t) (h2 : t ≤ 2147483647) : zi_tb t i = zb t i.toNat := (zb_tb h1 h2).symm
theorem z24_b {a : Int} (h : z24 a) {j : Nat} (hj : 24 ≤ j) : zb a j = false := by
  obtain ⟨h1, h2⟩ := h
  rw [zb_tb h1 (by omega)]
  refine Nat.testBit_lt_two_pow (Nat.lt_of_lt_of_le (show a.toNat < 2 ^ 24 by omega) (Nat.pow_le_pow_right (by decide) hj))
theorem z24_of {a : Int} (a1 : -2147483648 ≤ a) (a2 : a ≤ 2147483647) (h : ∀ j, 24 ≤ j → j < 32 → zb a j = false) : z24 a := by
  have h0 : 0 ≤ a := by
    apply Int.not_lt.mp
    intro hn
    have hs := h 31 (by decide) (by decide)
    unfold zb at hs
    have e := zi_of a1 a2
    have e2 : (Int32.ofInt a).toBitVec.toInt = a := e
    have hm : (Int32.ofInt a).toBitVec.msb = false := by
      rw [BitVec.msb_eq_getLsbD_last]; exact hs
    rw [BitVec.toInt_eq_msb_cond, hm] at e2
    simp at e2
    omega
  refine ⟨h0, ?_⟩
  have hl : a.toNat < 2 ^ 24 := Nat.lt_pow_two_of_testBit _ fun i hi => by
    by_cases h32 : i < 32
    · rw [← zb_tb h0 a2]; exact h i hi h32
    · rw [← zb_tb h0 a2]; exact zb_ge (by omega)
  omega
theorem z24_or {a b : Int} (h1 : z24 a) (h2 : z24 b) : z24 (zi_or a b) := by
  have := zi_ev_in (op := fun x y => x ||| y) (a := a) (b := b)
  exact z24_of this.1 this.2 fun j j1 _ => by rw [zb_or, z24_b h1 j1, z24_b h2 j1]; rfl
theorem z24_and {a b : Int} (h1 : z24 a) : z24 (zi_and a b) := by
  have := zi_ev_in (op := fun x y => x &&& y) (a := a) (b := b)
  exact z24_of this.1 this.2 fun j j1 _ => by rw [zb_and, z24_b h1 j1]; rfl
theorem z24_and2 {a b : Int} (h1 : z24 b) : z24 (zi_and a b) := by
  have := zi_ev_in (op := fun x y => x &&& y) (a := a) (b := b)
  exact z24_of this.1 this.2 fun j j1 _ => by rw [zb_and, z24_b h1 j1, Bool.and_false]
theorem z24_xor {a b : Int} (h1 : z24 a) (h2 : z24 b) : z24 (zi_xor a b) := by
  have := zi_ev_in (op := fun x y => x ^^^ y) (a := a) (b := b)
  exact z24_of this.1 this.2 fun j j1 _ => by rw [zb_xor, z24_b h1 j1, z24_b h2 j1]; rfl
theorem z24_shl {i : Int} (h1 : 0 ≤ i) (h2 : i < 24) : z24 (zi_shl 1 i) := by
  have := zi_ev_in (op := fun x y => x <<< (y &&& 31)) (a := 1) (b := i)
  exact z24_of this.1 this.2 fun j j1 _ => by rw [zb_shl h1 (by omega), decide_eq_false (by omega)]
theorem z24_0 : z24 0 := ⟨by decide, by decide⟩
theorem z24_ext {a b : Int} (h1 : z24 a) (h2 : z24 b) (h : ∀ j, j < 24 → zb a j = zb b j) : a = b := by
  obtain ⟨a1, a2⟩ := id h1
  obtain ⟨b1, b2⟩ := id h2
  refine zb_ext (by omega) (by omega) (by omega) (by omega) fun j _ => ?_
  by_cases hj : j < 24
  · exact h j hj
  · rw [z24_b h1 (by omega), z24_b h2 (by omega)]
theorem z24_z {a : Int} (h1 : z24 a) : a = 0 ↔ ∀ j, j < 24 → zb a j = false :=
  ⟨fun e j _ => by rw [e]; exact zb_0, fun h => z24_ext h1 z24_0 fun j hj => by rw [h j hj]; exact zb_0.symm⟩
theorem zb_bit {t i : Int} (k1 : 0 ≤ i) (k2 : i < 32) : zi_and (zi_shr t i) 1 = if zb t i.toNat = true then 1 else 0 := by
  have hs : zb (zi_shr t i) 0 = zb t i.toNat := by
    unfold zi_shr
    rw [zb_ev]
    show ((Int32.ofInt t).toBitVec.sshiftRight' ((Int32.ofInt i &&& 31).toBitVec.smod 32)).getLsbD 0 = _
    unfold BitVec.sshiftRight'
    rw [zi_amt k1 k2, BitVec.getLsbD_sshiftRight, if_pos (by omega)]
    simp [zb]
  have hin := zi_ev_in (op := fun x y => x &&& y) (a := zi_shr t i) (b := 1)
  refine zb_ext hin.1 hin.2 (by split <;> decide) (by split <;> decide) fun j _ => ?_
  show zb (zi_and (zi_shr t i) 1) j = _
  rw [zb_and, zb_1]
  by_cases hj : j = 0
  · subst hj
    rw [hs, decide_eq_true rfl, Bool.and_true]
    cases h : zb t i.toNat
    · rw [if_neg (by decide)]; exact zb_0.symm
    · rw [if_pos rfl, zb_1]; rfl
  · rw [decide_eq_false hj, Bool.and_false]
    split
    · rw [zb_1, decide_eq_false hj]
    · exact zb_0.symm
theorem zb_bit1 {t i : Int} (k1 : 0 ≤ i) (k2 : i < 32) (h : zb t i.toNat = true) : zi_and (zi_shr t i) 1 = 1 := by rw [zb_bit k1 k2, if_pos h]
theorem zb_bit0 {t i : Int} (k1 : 0 ≤ i) (k2 : i < 32) (h : ¬ zb t i.toNat = true) : zi_and (zi_shr t i) 1 = 0 := by rw [zb_bit k1 k2, if_neg h]
/-- a set that is made one by one, up from below -/
theorem zb_grow {s i : Int} {n : Nat} {P : Nat → Bool} (e : i = n) (hn : n < 24) (h : ∀ j, zb s j = (decide (j < n) && P j)) : ∀ j, zb (if P n = true then zi_or s (zi_shl 1 i) else s) j = (decide (j < n + 1) && P j) := by
  intro j
  by_cases hp : P n = true
  · rw [if_pos hp, zb_or, zb_shl (by omega) (by omega), h, show i.toNat = n by omega]
    by_cases ej : j = n
    · subst ej
      rw [decide_eq_true (show j = j from rfl), decide_eq_true (show j < j + 1 by omega), hp, Bool.or_true]; rfl
    · rw [decide_eq_false ej, Bool.or_false]
      congr 1
      by_cases hj : j < n
      · rw [decide_eq_true hj, decide_eq_true (by omega)]
      · rw [decide_eq_false hj, decide_eq_false (by omega)]
  · rw [if_neg hp, h]
    by_cases ej : j = n
    · subst ej
      rw [Bool.eq_false_iff.mpr hp, Bool.and_false, Bool.and_false]
    · congr 1
      by_cases hj : j < n
      · rw [decide_eq_true hj, decide_eq_true (by omega)]
      · rw [decide_eq_false hj, decide_eq_false (by omega)]
