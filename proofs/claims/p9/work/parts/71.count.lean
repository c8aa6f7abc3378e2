/-! Integer.bitCount counts the bits. -/
theorem zs_andsplit (k a m q M : Nat) (ha : a < 2 ^ k) (hm : m < 2 ^ k) : (a + 2 ^ k * q) &&& (m + 2 ^ k * M) = (a &&& m) + 2 ^ k * (q &&& M) := by
  have h1 : ∀ x y : Nat, x < 2 ^ k → ∀ i, (x + 2 ^ k * y).testBit i = if i < k then x.testBit i else y.testBit (i - k) := fun x y hx i => by
    rw [Nat.add_comm, Nat.testBit_two_pow_mul_add _ hx]
  have hl : a &&& m < 2 ^ k := Nat.lt_of_le_of_lt Nat.and_le_left ha
  refine Nat.eq_of_testBit_eq fun i => ?_
  rw [Nat.testBit_and, h1 _ _ ha, h1 _ _ hm, h1 _ _ hl, Nat.testBit_and, Nat.testBit_and]
  by_cases h : i < k
  · rw [if_pos h, if_pos h, if_pos h]
  · rw [if_neg h, if_neg h, if_neg h]
def zs_s1 (M n : Nat) : Nat := n - ((n / 2) &&& M)
def zs_s2 (M n : Nat) : Nat := (n &&& M) + ((n / 4) &&& M)
def zs_s3 (M n : Nat) : Nat := (n + n / 16) &&& M
theorem zs_s1_d : ∀ a, a < 256 → ∀ c, c < 2 → (a / 2 + 128 * c) &&& 85 = (a / 2) &&& 85 := by decide +kernel
theorem zs_s1_split {a r M : Nat} (ha : a < 256) : zs_s1 (85 + 256 * M) (a + 256 * r) = zs_s1 85 a + 256 * zs_s1 M r := by
  unfold zs_s1
  have e : (a + 256 * r) / 2 = (a / 2 + 128 * (r % 2)) + 2 ^ 8 * (r / 2) := by omega
  have l1 : (a / 2) &&& 85 ≤ a / 2 := Nat.and_le_left
  have l2 : (r / 2) &&& M ≤ r / 2 := Nat.and_le_left
  rw [e, zs_andsplit 8 _ 85 _ M (by omega) (by decide), zs_s1_d a ha _ (by omega)]
  omega
theorem zs_s2_d : ∀ a, a < 256 → ∀ c, c < 4 → (a / 4 + 64 * c) &&& 51 = (a / 4) &&& 51 := by decide +kernel
theorem zs_s2_split {a r M : Nat} (ha : a < 256) : zs_s2 (51 + 256 * M) (a + 256 * r) = zs_s2 51 a + 256 * zs_s2 M r := by
  unfold zs_s2
  have e : (a + 256 * r) / 4 = (a / 4 + 64 * (r % 4)) + 2 ^ 8 * (r / 4) := by omega
  have q := zs_andsplit 8 a 51 r M (by omega) (by decide)
  rw [e, zs_andsplit 8 (a / 4 + 64 * (r % 4)) 51 (r / 4) M (by omega) (by decide), zs_s2_d a ha _ (by omega)]
  rw [show a + 256 * r = a + 2 ^ 8 * r from rfl, show 51 + 256 * M = 51 + 2 ^ 8 * M from rfl, q]
  omega
theorem zs_s3_d : ∀ a, a < 69 → ∀ c, c < 5 → (a + a / 16 + 16 * c) &&& 15 = (a + a / 16) &&& 15 := by decide +kernel
theorem zs_s3_split {a r M : Nat} (ha : a < 69) (hr : r % 16 < 5) : zs_s3 (15 + 256 * M) (a + 256 * r) = zs_s3 15 a + 256 * zs_s3 M r := by
  unfold zs_s3
  have e : a + 256 * r + (a + 256 * r) / 16 = (a + a / 16 + 16 * (r % 16)) + 2 ^ 8 * (r + r / 16) := by omega
  rw [e, zs_andsplit 8 _ 15 _ M (by omega) (by decide), zs_s3_d a ha _ hr]
/-- of a byte -/
def zs_t (a : Nat) : Nat := zs_s3 15 (zs_s2 51 (zs_s1 85 a))
def zs_p (n : Nat) : Nat → Nat
  | 0 => 0
  | k + 1 => zs_p n k + n / 2 ^ k % 2
theorem zs_t_d : ∀ a, a < 256 → zs_t a = zs_p a 8 ∧ zs_t a ≤ 8 ∧ zs_s1 85 a < 256 ∧ zs_s2 51 (zs_s1 85 a) < 69 ∧ zs_s2 51 (zs_s1 85 a) % 16 < 5 := by decide +kernel
theorem zs_t_c : ∀ a, a < 256 → zs_s1 21845 a = zs_s1 85 a ∧ zs_s1 5592405 a = zs_s1 85 a ∧ zs_s2 13107 (zs_s1 85 a) = zs_s2 51 (zs_s1 85 a) ∧ zs_s3 3855 (zs_s2 51 (zs_s1 85 a)) = zs_t a := by decide +kernel
/-- the whole, in bytes -/
theorem zs_pop {a b c : Nat} (ha : a < 256) (hb : b < 256) (hc : c < 256) : zs_s3 252645135 (zs_s2 858993459 (zs_s1 1431655765 (a + 256 * (b + 256 * c)))) = zs_t a + 256 * (zs_t b + 256 * zs_t c) := by
  obtain ⟨a1, a2, a3, a4, a5⟩ := zs_t_d a ha
  obtain ⟨b1, b2, b3, b4, b5⟩ := zs_t_d b hb
  obtain ⟨c1, c2, c3, c4, c5⟩ := zs_t_d c hc
  obtain ⟨d1, d2, d3, d4⟩ := zs_t_c c hc
  have e1 : zs_s1 1431655765 (a + 256 * (b + 256 * c)) = zs_s1 85 a + 256 * (zs_s1 85 b + 256 * zs_s1 85 c) := by
    rw [show 1431655765 = 85 + 256 * (85 + 256 * 21845) from rfl, zs_s1_split ha, zs_s1_split hb, d1]
  have e2 : zs_s2 858993459 (zs_s1 85 a + 256 * (zs_s1 85 b + 256 * zs_s1 85 c)) = zs_s2 51 (zs_s1 85 a) + 256 * (zs_s2 51 (zs_s1 85 b) + 256 * zs_s2 51 (zs_s1 85 c)) := by
    rw [show 858993459 = 51 + 256 * (51 + 256 * 13107) from rfl, zs_s2_split a3, zs_s2_split b3, d3]
  rw [e1, e2, show 252645135 = 15 + 256 * (15 + 256 * 3855) from rfl, zs_s3_split a4 (by omega), zs_s3_split b4 (by omega), d4]
  rfl
theorem zs_p24 {a b c : Nat} (ha : a < 256) (hb : b < 256) (hc : c < 256) : zs_p (a + 256 * (b + 256 * c)) 24 = zs_p a 8 + zs_p b 8 + zs_p c 8 := by
  simp only [zs_p]
  have h : ∀ n : Nat, n < 8 → (a + 256 * (b + 256 * c)) / 2 ^ n % 2 = a / 2 ^ n % 2 := by
    intro n hn
    have : n = 0 ∨ n = 1 ∨ n = 2 ∨ n = 3 ∨ n = 4 ∨ n = 5 ∨ n = 6 ∨ n = 7 := by omega
    rcases this with rfl | rfl | rfl | rfl | rfl | rfl | rfl | rfl <;> simp only [Nat.reducePow] <;> omega
  have h2 : ∀ n : Nat, n < 8 → (a + 256 * (b + 256 * c)) / 2 ^ (n + 8) % 2 = b / 2 ^ n % 2 := by
    intro n hn
    have : n = 0 ∨ n = 1 ∨ n = 2 ∨ n = 3 ∨ n = 4 ∨ n = 5 ∨ n = 6 ∨ n = 7 := by omega
    rcases this with rfl | rfl | rfl | rfl | rfl | rfl | rfl | rfl <;> simp only [Nat.reducePow, Nat.reduceAdd] <;> omega
  have h3 : ∀ n : Nat, n < 8 → (a + 256 * (b + 256 * c)) / 2 ^ (n + 16) % 2 = c / 2 ^ n % 2 := by
    intro n hn
    have : n = 0 ∨ n = 1 ∨ n = 2 ∨ n = 3 ∨ n = 4 ∨ n = 5 ∨ n = 6 ∨ n = 7 := by omega
    rcases this with rfl | rfl | rfl | rfl | rfl | rfl | rfl | rfl <;> simp only [Nat.reducePow, Nat.reduceAdd] <;> omega
  have g := fun n hn => h n hn
  rw [h 0 (by decide), h 1 (by decide), h 2 (by decide), h 3 (by decide), h 4 (by decide), h 5 (by decide), h 6 (by decide), h 7 (by decide)]
  rw [h2 0 (by decide), h2 1 (by decide), h2 2 (by decide), h2 3 (by decide), h2 4 (by decide), h2 5 (by decide), h2 6 (by decide), h2 7 (by decide)]
  rw [h3 0 (by decide), h3 1 (by decide), h3 2 (by decide), h3 3 (by decide), h3 4 (by decide), h3 5 (by decide), h3 6 (by decide), h3 7 (by decide)]
  omega
theorem zs_last {p q r u v : Nat} (hp : p ≤ 8) (hq : q ≤ 8) (hr : r ≤ 8) (hu : p + 256 * (q + 256 * r) = u) (hv : u + u / 256 = v) : (v + v / 65536) % 64 = p + q + r := by
  have v1 : u / 256 = q + 256 * r := by omega
  have v2 : v = p + q + 256 * (q + r) + 65536 * r := by omega
  have v3 : v / 65536 = r := by omega
  rw [v3, v2]
  have v4 : p + q + 256 * (q + r) + 65536 * r + r = p + q + r + 64 * (4 * (q + r) + 1024 * r) := by omega
  rw [v4, Nat.add_mul_mod_self_left]
  exact Nat.mod_eq_of_lt (by omega)
theorem zs_sum_p {t : Int} : ∀ n : Nat, zs_sum t n = (zs_p t.toNat n : Int)
  | 0 => rfl
  | n + 1 => by
    show zs_sum t n + (if zi_tb t (n : Int) = true then 1 else 0) = ((zs_p t.toNat n + t.toNat / 2 ^ n % 2 : Nat) : Int)
    rw [zs_sum_p n]
    unfold zi_tb
    rw [Int.toNat_natCast, Nat.testBit_eq_decide_div_mod_eq]
    have : t.toNat / 2 ^ n % 2 = 0 ∨ t.toNat / 2 ^ n % 2 = 1 := by omega
    rcases this with e | e <;> rw [e] <;> simp
theorem zi_ush_eq {a k : Int} (h1 : 0 ≤ a) (h2 : a ≤ 2147483647) (k1 : 0 ≤ k) (k2 : k < 32) : zi_ush a k = zi_shr a k := by
  have h := z_ushr_ok (a := (a, a)) (b := (k, k)) (x := Int32.ofInt a) (y := Int32.ofInt k) (by rw [z_in, zi_of (by omega) h2]; exact ⟨Int.le_refl _, Int.le_refl _⟩) (by rw [z_in, zi_of (by omega) (by omega)]; exact ⟨Int.le_refl _, Int.le_refl _⟩)
  have e : z_ushr (a, a) (k, k) = (a / ((2 ^ k.toNat : Nat) : Int), a / ((2 ^ k.toNat : Nat) : Int)) := by
    unfold z_ushr z_shr
    rw [if_pos h1, if_pos ⟨k1, k2⟩, if_pos h1]
  rw [e] at h
  have h : a / ((2 ^ k.toNat : Nat) : Int) ≤ zi_ush a k ∧ zi_ush a k ≤ a / ((2 ^ k.toNat : Nat) : Int) := h
  rw [zi_shr_eq (by omega) h2 k1 k2]
  omega
theorem zi_shr_nat {a : Nat} {k : Nat} (h : a ≤ 2147483647) (hk : k < 32) : zi_ush (a : Int) (k : Int) = ((a / 2 ^ k : Nat) : Int) := by
  rw [zi_ush_eq (by omega) (by omega) (by omega) (by omega), zi_shr_eq (by omega) (by omega) (by omega) (by omega), Int.toNat_natCast, Int.natCast_ediv]
theorem zi_and_n {a b : Nat} (h : a ≤ 2147483647) (hk : b ≤ 2147483647) : zi_and (a : Int) (b : Int) = ((a &&& b : Nat) : Int) := by
  rw [zi_and_nat (by omega) (by omega) (by omega) (by omega), Int.toNat_natCast, Int.toNat_natCast]
theorem zi_w_n {a : Nat} (h : a ≤ 2147483647) : zi_w (a : Int) = (a : Int) := zi_w_id (by omega) (by omega)
theorem ze_bitCount {x : Int} (h1 : 0 ≤ x) (h2 : x < 16777216) : zf_Integer_bitCount x = some (zs_sum x 24) := by
  obtain ⟨n, rfl⟩ : ∃ n : Nat, x = n := ⟨x.toNat, by omega⟩
  rw [zs_sum_p, Int.toNat_natCast]
  obtain ⟨a, b, c, ha, hb, hc, e⟩ : ∃ a b c : Nat, a < 256 ∧ b < 256 ∧ c < 256 ∧ n = a + 256 * (b + 256 * c) := ⟨n % 256, n / 256 % 256, n / 65536, by omega, by omega, by omega, by omega⟩
  obtain ⟨a1, a2, -⟩ := zs_t_d a ha
  obtain ⟨b1, b2, -⟩ := zs_t_d b hb
  obtain ⟨c1, c2, -⟩ := zs_t_d c hc
  have hp := zs_pop ha hb hc
  rw [← e] at hp
  unfold zf_Integer_bitCount zi_let
  have l1 : (n / 2) &&& 1431655765 ≤ n / 2 := Nat.and_le_left
  have s1 : zi_w ((n : Int) - zi_and (zi_ush (n : Int) 1) 1431655765) = ((zs_s1 1431655765 n : Nat) : Int) := by
    rw [show (1 : Int) = ((1 : Nat) : Int) from rfl, zi_shr_nat (by omega) (by decide), show (2 : Nat) ^ 1 = 2 from rfl, show (1431655765 : Int) = ((1431655765 : Nat) : Int) from rfl, zi_and_n (by omega) (by decide)]
    unfold zs_s1
    rw [zi_w_id (by omega) (by omega)]
    omega
  have q1 : zs_s1 1431655765 n ≤ n := by unfold zs_s1; omega
  generalize hy : zs_s1 1431655765 n = y at *
  have l2 : y &&& 858993459 ≤ y := Nat.and_le_left
  have l3 : (y / 4) &&& 858993459 ≤ y / 4 := Nat.and_le_left
  have s2 : zi_w (zi_and (y : Int) 858993459 + zi_and (zi_ush (y : Int) 2) 858993459) = ((zs_s2 858993459 y : Nat) : Int) := by
    rw [show (2 : Int) = ((2 : Nat) : Int) from rfl, zi_shr_nat (by omega) (by decide), show (2 : Nat) ^ 2 = 4 from rfl, show (858993459 : Int) = ((858993459 : Nat) : Int) from rfl, zi_and_n (by omega) (by decide), zi_and_n (by omega) (by decide)]
    unfold zs_s2
    rw [zi_w_id (by omega) (by omega)]
    omega
  have q2 : zs_s2 858993459 y ≤ 33554432 := by unfold zs_s2; omega
  rw [s1, s2]
  dsimp only
  generalize hz : zs_s2 858993459 y = z at *
  have s3 : zi_and (zi_w ((z : Int) + zi_ush (z : Int) 4)) 252645135 = ((zs_s3 252645135 z : Nat) : Int) := by
    rw [show (4 : Int) = ((4 : Nat) : Int) from rfl, zi_shr_nat (by omega) (by decide), show ((z : Int) + ((z / 2 ^ 4 : Nat) : Int)) = ((z + z / 16 : Nat) : Int) by omega, zi_w_n (by omega), show (252645135 : Int) = ((252645135 : Nat) : Int) from rfl, zi_and_n (by omega) (by decide)]
    rfl
  rw [s3, hp]
  generalize hu : zs_t a + 256 * (zs_t b + 256 * zs_t c) = u at *
  have s4 : zi_w ((u : Int) + zi_ush (u : Int) 8) = ((u + u / 256 : Nat) : Int) := by
    rw [show (8 : Int) = ((8 : Nat) : Int) from rfl, zi_shr_nat (by omega) (by decide), show ((u : Int) + ((u / 2 ^ 8 : Nat) : Int)) = ((u + u / 256 : Nat) : Int) by omega, zi_w_n (by omega)]
  rw [s4]
  generalize hv : u + u / 256 = v at *
  have s5 : zi_w ((v : Int) + zi_ush (v : Int) 16) = ((v + v / 65536 : Nat) : Int) := by
    rw [show (16 : Int) = ((16 : Nat) : Int) from rfl, zi_shr_nat (by omega) (by decide), show ((v : Int) + ((v / 2 ^ 16 : Nat) : Int)) = ((v + v / 65536 : Nat) : Int) by omega, zi_w_n (by omega)]
  rw [s5, show (63 : Int) = ((63 : Nat) : Int) from rfl, zi_and_n (by omega) (by decide), show (63 : Nat) = 2 ^ 6 - 1 from rfl, Nat.and_two_pow_sub_one_eq_mod]
  have hn := zs_p24 ha hb hc
  rw [← e] at hn
  rw [hn, ← a1, ← b1, ← c1, show (2 : Nat) ^ 6 = 64 from rfl, zs_last a2 b2 c2 hu hv]
