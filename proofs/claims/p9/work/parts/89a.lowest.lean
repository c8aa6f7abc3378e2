/-! How many are in a set; the lowest of a set. -/
def yn_n (f : Nat → Bool) : Nat → Int
  | 0 => 0
  | n + 1 => yn_n f n + (if f n = true then 1 else 0)
section YLO
theorem yn_in {f : Nat → Bool} : ∀ n : Nat, 0 ≤ yn_n f n ∧ yn_n f n ≤ n
  | 0 => ⟨Int.le_refl _, Int.le_refl _⟩
  | n + 1 => by
    have := yn_in (f := f) n
    show 0 ≤ yn_n f n + (if f n = true then 1 else 0) ∧ yn_n f n + (if f n = true then 1 else 0) ≤ ((n + 1 : Nat) : Int)
    split <;> omega
theorem yn_eq {f g : Nat → Bool} : ∀ n : Nat, (∀ j, j < n → f j = g j) → yn_n f n = yn_n g n
  | 0, _ => rfl
  | n + 1, h => by
    show yn_n f n + (if f n = true then 1 else 0) = yn_n g n + (if g n = true then 1 else 0)
    rw [yn_eq n fun j hj => h j (by omega), h n (by omega)]
theorem yn_le {f g : Nat → Bool} : ∀ n : Nat, (∀ j, j < n → f j = true → g j = true) → yn_n f n ≤ yn_n g n
  | 0, _ => Int.le_refl _
  | n + 1, h => by
    show yn_n f n + (if f n = true then 1 else 0) ≤ yn_n g n + (if g n = true then 1 else 0)
    have a := yn_le n fun j hj => h j (by omega)
    have b := h n (by omega)
    by_cases c : f n = true
    · rw [if_pos c, if_pos (b c)]; omega
    · rw [if_neg c]; split <;> omega
theorem yn_lt {f g : Nat → Bool} {k : Nat} (fk : ¬ f k = true) (gk : g k = true) : ∀ n : Nat, k < n → (∀ j, j < n → f j = true → g j = true) → yn_n f n + 1 ≤ yn_n g n
  | 0, hk, _ => by omega
  | n + 1, hk, h => by
    show yn_n f n + (if f n = true then 1 else 0) + 1 ≤ yn_n g n + (if g n = true then 1 else 0)
    by_cases e : k = n
    · subst e
      have a := yn_le k fun j hj => h j (by omega)
      rw [if_neg fk, if_pos gk]; omega
    · have a := yn_lt fk gk n (by omega) fun j hj => h j (by omega)
      have b := h n (by omega)
      by_cases c : f n = true
      · rw [if_pos c, if_pos (b c)]; omega
      · rw [if_neg c]; split <;> omega
theorem yn_add {f g : Nat → Bool} {k : Nat} (fk : f k = false) (gk : g k = true) : ∀ n : Nat, k < n → (∀ j, j < n → j ≠ k → f j = g j) → yn_n g n = yn_n f n + 1
  | 0, hk, _ => by omega
  | n + 1, hk, h => by
    show yn_n g n + (if g n = true then 1 else 0) = yn_n f n + (if f n = true then 1 else 0) + 1
    by_cases e : k = n
    · subst e
      rw [yn_eq k fun j hj => h j (by omega) (by omega), fk, gk, if_pos rfl, if_neg (by decide)]; omega
    · rw [yn_add fk gk n (by omega) fun j hj => h j (by omega), h n (by omega) (fun q => e q.symm)]; omega
theorem yn_all {f : Nat → Bool} : ∀ n : Nat, yn_n f n = n → ∀ j, j < n → f j = true
  | 0, _, j, hj => by omega
  | n + 1, h, j, hj => by
    have h : yn_n f n + (if f n = true then 1 else 0) = ((n + 1 : Nat) : Int) := by rw [← h]; rfl
    have b := yn_in (f := f) n
    by_cases c : f n = true
    · rw [if_pos c] at h
      by_cases e : j = n
      · rw [e]; exact c
      · exact yn_all n (by omega) j (by omega)
    · rw [if_neg c] at h; omega
theorem yn_sum {t : Int} (h1 : 0 ≤ t) (h2 : t ≤ 2147483647) : ∀ n : Nat, zs_sum t n = yn_n (zb t) n
  | 0 => rfl
  | n + 1 => by
    show zs_sum t n + (if zi_tb t (n : Int) = true then 1 else 0) = yn_n (zb t) n + (if zb t n = true then 1 else 0)
    rw [yn_sum h1 h2 n, zb_tb2 h1 h2, Int.toNat_natCast]
theorem yn_low {f : Nat → Bool} : ∀ n : Nat, (∃ j, j < n ∧ f j = true) → ∃ r, r < n ∧ f r = true ∧ ∀ j, j < r → f j = false
  | 0, ⟨j, h, _⟩ => by omega
  | n + 1, ⟨j, h, hj⟩ => by
    by_cases q : ∃ j, j < n ∧ f j = true
    · obtain ⟨r, a, b, c⟩ := yn_low n q
      exact ⟨r, by omega, b, c⟩
    · have e : j = n := by
        by_cases e : j = n
        · exact e
        · exact absurd ⟨j, by omega, hj⟩ q
      subst e
      refine ⟨j, by omega, hj, fun i hi => ?_⟩
      cases c : f i
      · rfl
      · exact absurd ⟨i, hi, c⟩ q
theorem zb_neg {x : Int} (h1 : 0 ≤ x) (h2 : x ≤ 2147483647) {j : Nat} (hj : j < 32) : zb (zi_w (-x)) j = (zb x j ^^ decide (∃ i, i < j ∧ zb x i = true)) := by
  rw [zi_w_id (x := -x) (by omega) (by omega)]
  unfold zb
  have e : (Int32.ofInt (-x)).toBitVec = -(Int32.ofInt x).toBitVec := by
    rw [Int32.ofInt_neg]; rfl
  rw [e, BitVec.getLsbD_neg]
  simp [hj]
theorem ze_lowest {x : Int} (hx : z24 x) (h0 : x ≠ 0) : ∃ r : Nat, r < 24 ∧ zb x r = true ∧ zf_X_lowestOf x = some (r : Int) := by
  have hex : ∃ j, j < 24 ∧ zb x j = true := by
    by_cases q : ∃ j, j < 24 ∧ zb x j = true
    · exact q
    · refine absurd ((z24_z hx).mpr fun j hj => ?_) h0
      cases c : zb x j
      · rfl
      · exact absurd ⟨j, hj, c⟩ q
  obtain ⟨r, r1, r2, r3⟩ := yn_low 24 hex
  have hand : zi_and x (zi_w (-x)) = zi_shl 1 r := by
    refine z24_ext (z24_and hx) (z24_shl (by omega) (by omega)) fun j hj => ?_
    rw [zb_and, zb_neg hx.1 (by have := hx.2; omega) (by omega), zb_shl (by omega) (by omega), Int.toNat_natCast]
    by_cases e : j = r
    · subst e
      rw [r2, decide_eq_true (rfl : j = j)]
      have : ¬ ∃ i, i < j ∧ zb x i = true := fun ⟨i, a, b⟩ => by rw [r3 i a] at b; cases b
      rw [decide_eq_false this]; rfl
    · rw [decide_eq_false e]
      by_cases c : j < r
      · rw [r3 j c, Bool.false_and]
      · rw [decide_eq_true (⟨r, by omega, r2⟩ : ∃ i, i < j ∧ zb x i = true)]
        cases zb x j <;> rfl
  refine ⟨r, r1, r2, ?_⟩
  unfold zf_X_lowestOf
  have hd : ∀ k : Nat, k < 24 → zf_Integer_bitCount (zi_w (zi_shl 1 k - 1)) = some (k : Int) := by
    have hd2 : ∀ k : Nat, k < 24 → (0 ≤ zi_w (zi_shl 1 k - 1) ∧ zi_w (zi_shl 1 k - 1) < 16777216) ∧ zs_sum (zi_w (zi_shl 1 k - 1)) 24 = k := by decide +kernel
    intro k hk
    obtain ⟨⟨a, b⟩, c⟩ := hd2 k hk
    rw [ze_bitCount a b, c]
  rw [hand, hd r r1, zl_b]
end YLO
