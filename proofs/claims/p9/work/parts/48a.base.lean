/-! What the functions' operators are on numbers that are not below 0. -/
theorem zi_of {a : Int} (h1 : -2147483648 ≤ a) (h2 : a ≤ 2147483647) : (Int32.ofInt a).toInt = a := by
  rw [Int32.toInt_ofInt]
  exact z_bmod h1 h2
theorem zi_nat {a : Int} (h1 : 0 ≤ a) (h2 : a ≤ 2147483647) : (Int32.ofInt a).toBitVec.toNat = a.toNat := by
  have e := zi_of (a := a) (by omega) h2
  have := z_nat (x := Int32.ofInt a) (by rw [e]; exact h1)
  rw [e] at this
  omega
theorem zi_and_nat {a b : Int} (h1 : 0 ≤ a) (h2 : a ≤ 2147483647) (k1 : 0 ≤ b) (k2 : b ≤ 2147483647) : zi_and a b = ((a.toNat &&& b.toNat : Nat) : Int) := by
  have e : (Int32.ofInt a &&& Int32.ofInt b).toBitVec.toNat = a.toNat &&& b.toNat := by rw [z_and_nat, zi_nat h1 h2, zi_nat k1 k2]
  have l : a.toNat &&& b.toNat ≤ a.toNat := Nat.and_le_left
  unfold zi_and zi_ev
  show (Int32.ofInt a &&& Int32.ofInt b).toInt = _
  rw [z_ofnat (by rw [e]; omega), e]
theorem zi_or_lt {a b : Nat} (h : a < 2147483648) (k : b < 2147483648) : a ||| b < 2147483648 := Nat.or_lt_two_pow (n := 31) h k
theorem zi_xor_lt {a b : Nat} (h : a < 2147483648) (k : b < 2147483648) : a ^^^ b < 2147483648 := Nat.xor_lt_two_pow (n := 31) h k
theorem zi_or_nat {a b : Int} (h1 : 0 ≤ a) (h2 : a ≤ 2147483647) (k1 : 0 ≤ b) (k2 : b ≤ 2147483647) : zi_or a b = ((a.toNat ||| b.toNat : Nat) : Int) := by
  have e : (Int32.ofInt a ||| Int32.ofInt b).toBitVec.toNat = a.toNat ||| b.toNat := by rw [z_or_nat, zi_nat h1 h2, zi_nat k1 k2]
  have l := zi_or_lt (a := a.toNat) (b := b.toNat) (by omega) (by omega)
  unfold zi_or zi_ev
  show (Int32.ofInt a ||| Int32.ofInt b).toInt = _
  rw [z_ofnat (by rw [e]; omega), e]
theorem zi_xor_nat {a b : Int} (h1 : 0 ≤ a) (h2 : a ≤ 2147483647) (k1 : 0 ≤ b) (k2 : b ≤ 2147483647) : zi_xor a b = ((a.toNat ^^^ b.toNat : Nat) : Int) := by
  have e : (Int32.ofInt a ^^^ Int32.ofInt b).toBitVec.toNat = a.toNat ^^^ b.toNat := by rw [z_xor_nat, zi_nat h1 h2, zi_nat k1 k2]
  have l := zi_xor_lt (a := a.toNat) (b := b.toNat) (by omega) (by omega)
  unfold zi_xor zi_ev
  show (Int32.ofInt a ^^^ Int32.ofInt b).toInt = _
  rw [z_ofnat (by rw [e]; omega), e]
theorem zi_amt {i : Int} (h1 : 0 ≤ i) (h2 : i < 32) : ((Int32.ofInt i &&& 31).toBitVec.smod 32).toNat = i.toNat := by
  obtain ⟨k, k1, k2, k3⟩ := z_amt (Int32.ofInt i)
  have e := zi_of (a := i) (by omega) (by omega)
  have := k3 (by rw [e]; exact h1) (by rw [e]; exact h2)
  rw [e] at this
  rw [k2]; omega
theorem zi_shr_eq {a i : Int} (h1 : -2147483648 ≤ a) (h2 : a ≤ 2147483647) (k1 : 0 ≤ i) (k2 : i < 32) : zi_shr a i = a / ((2 ^ i.toNat : Nat) : Int) := by
  unfold zi_shr zi_ev
  show (Int32.ofInt a >>> (Int32.ofInt i &&& 31)).toInt = _
  rw [z_shr_val (zi_amt k1 k2), zi_of h1 h2]
/-- the bit at a place -/
def zi_tb (t i : Int) : Bool := t.toNat.testBit i.toNat
theorem zi_bit {t i : Int} (h1 : 0 ≤ t) (h2 : t ≤ 2147483647) (k1 : 0 ≤ i) (k2 : i < 32) : zi_and (zi_shr t i) 1 = if zi_tb t i then 1 else 0 := by
  have hp : (0 : Int) < ((2 ^ i.toNat : Nat) : Int) := by have := Nat.two_pow_pos i.toNat; omega
  have e := zi_shr_eq (a := t) (i := i) (by omega) h2 k1 k2
  have q1 : 0 ≤ t / ((2 ^ i.toNat : Nat) : Int) := Int.ediv_nonneg h1 (by omega)
  have q2 : t / ((2 ^ i.toNat : Nat) : Int) ≤ t := Int.ediv_le_self _ h1
  rw [e, zi_and_nat q1 (by omega) (by decide) (by decide)]
  have e2 : (t / ((2 ^ i.toNat : Nat) : Int)).toNat = t.toNat / 2 ^ i.toNat := by
    have h : t = (t.toNat : Int) := by omega
    rw [h, ← Int.natCast_ediv, Int.toNat_natCast, Int.toNat_natCast]
  rw [e2]
  unfold zi_tb
  have e3 : (1 : Int).toNat = 1 := rfl
  rw [e3, Nat.and_one_is_mod, Nat.testBit_eq_decide_div_mod_eq]
  by_cases hm : t.toNat / 2 ^ i.toNat % 2 = 1
  · rw [if_pos (by simpa using hm), hm]; rfl
  · have : t.toNat / 2 ^ i.toNat % 2 = 0 := by omega
    rw [if_neg (by simpa using hm), this]; rfl
theorem zi_shl1 {i : Int} (k1 : 0 ≤ i) (k2 : i < 31) : zi_shl 1 i = ((2 ^ i.toNat : Nat) : Int) := by
  have h : ∀ k : Nat, k < 31 → zi_shl 1 (k : Int) = ((2 ^ k : Nat) : Int) := by decide +kernel
  have := h i.toNat (by omega)
  rwa [show ((i.toNat : Nat) : Int) = i by omega] at this
theorem zi_pow_le {i : Int} (k1 : 0 ≤ i) (k2 : i < 31) : (2 ^ i.toNat : Nat) ≤ 1073741824 := by
  have : 2 ^ i.toNat ≤ 2 ^ 30 := Nat.pow_le_pow_right (by omega) (by omega)
  exact this
theorem zi_set {t i : Int} (h1 : 0 ≤ t) (h2 : t ≤ 2147483647) (k1 : 0 ≤ i) (k2 : i < 31) : zi_or t (zi_shl 1 i) = ((t.toNat ||| 2 ^ i.toNat : Nat) : Int) := by
  have hp := zi_pow_le k1 k2
  rw [zi_shl1 k1 k2]
  generalize 2 ^ i.toNat = p at hp ⊢
  rw [zi_or_nat h1 h2 (by omega) (by omega), Int.toNat_natCast]
/-- what is set -/
theorem zi_set_tb {t i : Int} (h1 : 0 ≤ t) (h2 : t ≤ 2147483647) (k1 : 0 ≤ i) (k2 : i < 31) (j : Int) (hj : 0 ≤ j) : zi_tb (zi_or t (zi_shl 1 i)) j = (zi_tb t j || decide (j = i)) := by
  rw [zi_set h1 h2 k1 k2]
  unfold zi_tb
  rw [Int.toNat_natCast, Nat.testBit_or, Nat.testBit_two_pow]
  congr 1
  by_cases h : j = i
  · rw [h]; simp
  · rw [decide_eq_false h, decide_eq_false (by omega)]
theorem zi_not {a : Int} (h1 : 0 ≤ a) (h2 : a ≤ 2147483647) : zi_xor a (-1) = -1 - a := by
  unfold zi_xor zi_ev
  show (Int32.ofInt a ^^^ Int32.ofInt (-1)).toInt = _
  have k := z_xor_ok (a := (a, a)) (b := (-1, -1)) (x := Int32.ofInt a) (y := Int32.ofInt (-1)) (by rw [z_in, zi_of (by omega) h2]; exact ⟨Int.le_refl _, Int.le_refl _⟩) (by rw [z_in, zi_of (by decide) (by decide)]; exact ⟨Int.le_refl _, Int.le_refl _⟩)
  have e : z_xor (a, a) (-1, -1) = (-1 - a, -1 - a) := by
    unfold z_xor
    rw [if_neg (by intro h; exact absurd h.2.1 (by decide)), if_pos ⟨rfl, rfl⟩]
  rw [e] at k
  have k1 : -1 - a ≤ _ := k.1
  have k2 : _ ≤ -1 - a := k.2
  omega
/-- what is taken away -/
theorem zi_clr {t i : Int} (h1 : 0 ≤ t) (h2 : t ≤ 2147483647) (k1 : 0 ≤ i) (k2 : i < 31) : 0 ≤ zi_and t (zi_xor (zi_shl 1 i) (-1)) ∧ zi_and t (zi_xor (zi_shl 1 i) (-1)) ≤ t ∧ ∀ j : Int, 0 ≤ j → j < 31 → zi_tb (zi_and t (zi_xor (zi_shl 1 i) (-1))) j = (zi_tb t j && decide (j ≠ i)) := by
  have hp := zi_pow_le k1 k2
  have htb : ∀ j : Nat, (2 ^ i.toNat).testBit j = decide (i.toNat = j) := fun j => Nat.testBit_two_pow
  rw [zi_shl1 k1 k2]
  generalize 2 ^ i.toNat = p at hp htb ⊢
  rw [zi_not (by omega) (by omega)]
  have hn : (Int32.ofInt (-1 - (p : Int))).toBitVec.toNat = 2 ^ 32 - (p + 1) := by
    have e := zi_of (a := -1 - (p : Int)) (by omega) (by omega)
    have lt := (Int32.ofInt (-1 - (p : Int))).toBitVec.isLt
    have e2 : (Int32.ofInt (-1 - (p : Int))).toBitVec.toInt = -1 - (p : Int) := e
    rw [BitVec.toInt_eq_toNat_cond] at e2
    generalize (Int32.ofInt (-1 - (p : Int))).toBitVec.toNat = w at lt e2 ⊢
    split at e2 <;> omega
  have e : (Int32.ofInt t &&& Int32.ofInt (-1 - (p : Int))).toBitVec.toNat = t.toNat &&& (2 ^ 32 - (p + 1)) := by rw [z_and_nat, zi_nat h1 h2, hn]
  have l : t.toNat &&& (2 ^ 32 - (p + 1)) ≤ t.toNat := Nat.and_le_left
  have v : zi_and t (-1 - (p : Int)) = ((t.toNat &&& (2 ^ 32 - (p + 1)) : Nat) : Int) := by
    unfold zi_and zi_ev
    show (Int32.ofInt t &&& Int32.ofInt (-1 - (p : Int))).toInt = _
    rw [z_ofnat (by rw [e]; omega), e]
  rw [v]
  have htb2 : ∀ j : Nat, j < 32 → (2 ^ 32 - (p + 1)).testBit j = !decide (i.toNat = j) := fun j hj => by
    rw [Nat.testBit_two_pow_sub_succ (by omega), htb, decide_eq_true hj]; simp
  generalize 2 ^ 32 - (p + 1) = w at l htb2 ⊢
  refine ⟨by omega, by omega, fun j hj hj2 => ?_⟩
  unfold zi_tb
  rw [Int.toNat_natCast, Nat.testBit_and, htb2 _ (by omega)]
  congr 1
  by_cases h : j = i
  · rw [h]; simp
  · rw [decide_eq_false (show ¬ i.toNat = j.toNat by omega), decide_eq_true (show j ≠ i from h)]; rfl
theorem zi_div_eq {a b : Int} (h1 : 0 ≤ a) (h2 : a ≤ 2147483647) (k1 : 0 < b) (k2 : b ≤ 2147483647) : zi_div a b = a / b :=
  zv_div_eq (zi_of (by omega) h2) (zi_of (by omega) k2) h1 k1
theorem zi_rem_eq {a b : Int} (h1 : 0 ≤ a) (h2 : a ≤ 2147483647) (k1 : 0 < b) (k2 : b ≤ 2147483647) : zi_rem a b = a % b :=
  zv_rem_eq (zi_of (by omega) h2) (zi_of (by omega) k2) h1 k1
/-! Going on: what is answered, and what holds of it. -/
def zh_ok {α : Type} (x : Option α) (P : α → Prop) : Prop := ∃ o, x = some o ∧ P o
theorem zh_ret {α : Type} {a : α} {P : α → Prop} (h : P a) : zh_ok (some a) P := ⟨a, rfl, h⟩
theorem zh_bind {α β : Type} {x : Option α} {f : α → Option β} {Q : α → Prop} {P : β → Prop} (h : zh_ok x Q) (k : ∀ o, Q o → zh_ok (f o) P) : zh_ok (x.bind f) P := by
  obtain ⟨o, rfl, hq⟩ := h
  exact k o hq
theorem zh_cond {α : Type} {b : Bool} {x : Option α} {P : α → Prop} (h : b = true) (k : zh_ok x P) : zh_ok (cond b x none) P := by
  rw [h]; exact k
theorem zh_mono {α : Type} {x : Option α} {P Q : α → Prop} (h : zh_ok x P) (k : ∀ o, P o → Q o) : zh_ok x Q := by
  obtain ⟨o, e, hp⟩ := h
  exact ⟨o, e, k o hp⟩
theorem zi_ix_of {a : Int} {n : Nat} (h1 : 0 ≤ a) (h2 : a < n) : zi_ix a n = true := by
  unfold zi_ix
  rw [decide_eq_true h1, decide_eq_true h2]; rfl
theorem zi_ne_of {a : Int} (h : a ≠ 0) : zi_ne a = true := by
  unfold zi_ne
  rw [decide_eq_false h]; rfl
theorem zi_bo_of {a : Int} (h1 : 0 ≤ a) (h2 : a ≤ 1) : zi_bo a = true := by
  unfold zi_bo
  rw [decide_eq_true h1, decide_eq_true h2]; rfl
