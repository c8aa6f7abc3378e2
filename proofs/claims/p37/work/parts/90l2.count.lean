/-! How many stars are told: the bits of a number below 2 ^ 24, and how Integer.bitCount finds them. -/
def zqi_and (a b : Int) : Int := zn_ev (fun x y => x &&& y) a b
def zqi_shr (a b : Int) : Int := zn_ev (fun x y => x >>> (y &&& 31)) a b
def zqi_ush (a b : Int) : Int := zn_ev (fun x y => (x.toUInt32 >>> (y.toUInt32 &&& Int32.toUInt32 31)).toInt32) a b
def zqi_add (a b : Int) : Int := zn_ev (fun x y => x + y) a b
def zqi_sub (a b : Int) : Int := zn_ev (fun x y => x - y) a b
theorem zqi_of {a : Int} (h1 : -2147483648 ≤ a) (h2 : a ≤ 2147483647) : (Int32.ofInt a).toInt = a := by
  rw [Int32.toInt_ofInt]
  exact z_bmod h1 h2
theorem zqi_nat {a : Int} (h1 : 0 ≤ a) (h2 : a ≤ 2147483647) : (Int32.ofInt a).toBitVec.toNat = a.toNat := by
  have e := zqi_of (a := a) (by omega) h2
  have := z_nat (x := Int32.ofInt a) (by rw [e]; exact h1)
  rw [e] at this
  omega
theorem zqi_and_nat {a b : Int} (h1 : 0 ≤ a) (h2 : a ≤ 2147483647) (k1 : 0 ≤ b) (k2 : b ≤ 2147483647) : zqi_and a b = ((a.toNat &&& b.toNat : Nat) : Int) := by
  have e : (Int32.ofInt a &&& Int32.ofInt b).toBitVec.toNat = a.toNat &&& b.toNat := by rw [z_and_nat, zqi_nat h1 h2, zqi_nat k1 k2]
  have l : a.toNat &&& b.toNat ≤ a.toNat := Nat.and_le_left
  unfold zqi_and zn_ev
  show (Int32.ofInt a &&& Int32.ofInt b).toInt = _
  rw [z_ofnat (by rw [e]; omega), e]
theorem zqi_amt {i : Int} (h1 : 0 ≤ i) (h2 : i < 32) : ((Int32.ofInt i &&& 31).toBitVec.smod 32).toNat = i.toNat := by
  obtain ⟨k, k1, k2, k3⟩ := z_amt (Int32.ofInt i)
  have e := zqi_of (a := i) (by omega) (by omega)
  have := k3 (by rw [e]; exact h1) (by rw [e]; exact h2)
  rw [e] at this
  rw [k2]; omega
theorem zqi_shr_eq {a i : Int} (h1 : -2147483648 ≤ a) (h2 : a ≤ 2147483647) (k1 : 0 ≤ i) (k2 : i < 32) : zqi_shr a i = a / ((2 ^ i.toNat : Nat) : Int) := by
  unfold zqi_shr zn_ev
  show (Int32.ofInt a >>> (Int32.ofInt i &&& 31)).toInt = _
  rw [z_shr_val (zqi_amt k1 k2), zqi_of h1 h2]
theorem zq_andsplit (k a m q M : Nat) (ha : a < 2 ^ k) (hm : m < 2 ^ k) : (a + 2 ^ k * q) &&& (m + 2 ^ k * M) = (a &&& m) + 2 ^ k * (q &&& M) := by
  have h1 : ∀ x y : Nat, x < 2 ^ k → ∀ i, (x + 2 ^ k * y).testBit i = if i < k then x.testBit i else y.testBit (i - k) := fun x y hx i => by
    rw [Nat.add_comm, Nat.testBit_two_pow_mul_add _ hx]
  have hl : a &&& m < 2 ^ k := Nat.lt_of_le_of_lt Nat.and_le_left ha
  refine Nat.eq_of_testBit_eq fun i => ?_
  rw [Nat.testBit_and, h1 _ _ ha, h1 _ _ hm, h1 _ _ hl, Nat.testBit_and, Nat.testBit_and]
  by_cases h : i < k
  · rw [if_pos h, if_pos h, if_pos h]
  · rw [if_neg h, if_neg h, if_neg h]
def zq_s1 (M n : Nat) : Nat := n - ((n / 2) &&& M)
def zq_s2 (M n : Nat) : Nat := (n &&& M) + ((n / 4) &&& M)
def zq_s3 (M n : Nat) : Nat := (n + n / 16) &&& M
theorem zq_s1_d : ∀ a, a < 256 → ∀ c, c < 2 → (a / 2 + 128 * c) &&& 85 = (a / 2) &&& 85 := by decide +kernel
theorem zq_s1_split {a r M : Nat} (ha : a < 256) : zq_s1 (85 + 256 * M) (a + 256 * r) = zq_s1 85 a + 256 * zq_s1 M r := by
  unfold zq_s1
  have e : (a + 256 * r) / 2 = (a / 2 + 128 * (r % 2)) + 2 ^ 8 * (r / 2) := by omega
  have l1 : (a / 2) &&& 85 ≤ a / 2 := Nat.and_le_left
  have l2 : (r / 2) &&& M ≤ r / 2 := Nat.and_le_left
  rw [e, zq_andsplit 8 _ 85 _ M (by omega) (by decide), zq_s1_d a ha _ (by omega)]
  omega
theorem zq_s2_d : ∀ a, a < 256 → ∀ c, c < 4 → (a / 4 + 64 * c) &&& 51 = (a / 4) &&& 51 := by decide +kernel
theorem zq_s2_split {a r M : Nat} (ha : a < 256) : zq_s2 (51 + 256 * M) (a + 256 * r) = zq_s2 51 a + 256 * zq_s2 M r := by
  unfold zq_s2
  have e : (a + 256 * r) / 4 = (a / 4 + 64 * (r % 4)) + 2 ^ 8 * (r / 4) := by omega
  have q := zq_andsplit 8 a 51 r M (by omega) (by decide)
  rw [e, zq_andsplit 8 (a / 4 + 64 * (r % 4)) 51 (r / 4) M (by omega) (by decide), zq_s2_d a ha _ (by omega)]
  rw [show a + 256 * r = a + 2 ^ 8 * r from rfl, show 51 + 256 * M = 51 + 2 ^ 8 * M from rfl, q]
  omega
theorem zq_s3_d : ∀ a, a < 69 → ∀ c, c < 5 → (a + a / 16 + 16 * c) &&& 15 = (a + a / 16) &&& 15 := by decide +kernel
theorem zq_s3_split {a r M : Nat} (ha : a < 69) (hr : r % 16 < 5) : zq_s3 (15 + 256 * M) (a + 256 * r) = zq_s3 15 a + 256 * zq_s3 M r := by
  unfold zq_s3
  have e : a + 256 * r + (a + 256 * r) / 16 = (a + a / 16 + 16 * (r % 16)) + 2 ^ 8 * (r + r / 16) := by omega
  rw [e, zq_andsplit 8 _ 15 _ M (by omega) (by decide), zq_s3_d a ha _ hr]
/-- of a byte -/
def zq_t (a : Nat) : Nat := zq_s3 15 (zq_s2 51 (zq_s1 85 a))
def zq_p (n : Nat) : Nat → Nat
  | 0 => 0
  | k + 1 => zq_p n k + n / 2 ^ k % 2
theorem zq_t_d : ∀ a, a < 256 → zq_t a = zq_p a 8 ∧ zq_t a ≤ 8 ∧ zq_s1 85 a < 256 ∧ zq_s2 51 (zq_s1 85 a) < 69 ∧ zq_s2 51 (zq_s1 85 a) % 16 < 5 := by decide +kernel
theorem zq_t_c : ∀ a, a < 256 → zq_s1 21845 a = zq_s1 85 a ∧ zq_s1 5592405 a = zq_s1 85 a ∧ zq_s2 13107 (zq_s1 85 a) = zq_s2 51 (zq_s1 85 a) ∧ zq_s3 3855 (zq_s2 51 (zq_s1 85 a)) = zq_t a := by decide +kernel
/-- the whole, in bytes -/
theorem zq_pop {a b c : Nat} (ha : a < 256) (hb : b < 256) (hc : c < 256) : zq_s3 252645135 (zq_s2 858993459 (zq_s1 1431655765 (a + 256 * (b + 256 * c)))) = zq_t a + 256 * (zq_t b + 256 * zq_t c) := by
  obtain ⟨a1, a2, a3, a4, a5⟩ := zq_t_d a ha
  obtain ⟨b1, b2, b3, b4, b5⟩ := zq_t_d b hb
  obtain ⟨c1, c2, c3, c4, c5⟩ := zq_t_d c hc
  obtain ⟨d1, d2, d3, d4⟩ := zq_t_c c hc
  have e1 : zq_s1 1431655765 (a + 256 * (b + 256 * c)) = zq_s1 85 a + 256 * (zq_s1 85 b + 256 * zq_s1 85 c) := by
    rw [show 1431655765 = 85 + 256 * (85 + 256 * 21845) from rfl, zq_s1_split ha, zq_s1_split hb, d1]
  have e2 : zq_s2 858993459 (zq_s1 85 a + 256 * (zq_s1 85 b + 256 * zq_s1 85 c)) = zq_s2 51 (zq_s1 85 a) + 256 * (zq_s2 51 (zq_s1 85 b) + 256 * zq_s2 51 (zq_s1 85 c)) := by
    rw [show 858993459 = 51 + 256 * (51 + 256 * 13107) from rfl, zq_s2_split a3, zq_s2_split b3, d3]
  rw [e1, e2, show 252645135 = 15 + 256 * (15 + 256 * 3855) from rfl, zq_s3_split a4 (by omega), zq_s3_split b4 (by omega), d4]
  rfl
theorem zq_p24 {a b c : Nat} (ha : a < 256) (hb : b < 256) (hc : c < 256) : zq_p (a + 256 * (b + 256 * c)) 24 = zq_p a 8 + zq_p b 8 + zq_p c 8 := by
  simp only [zq_p]
  have h : ∀ n : Nat, n < 8 → (a + 256 * (b + 256 * c)) / 2 ^ n % 2 = a / 2 ^ n % 2 := by
    intro n hn
    have : n = 0 ∨ n = 1 ∨ n = 2 ∨ n = 3 ∨ n = 4 ∨ n = 5 ∨ n = 6 ∨ n = 7 := by omega
    rcases this with rfl | rfl | rfl | rfl | rfl | rfl | rfl | rfl <;> simp only [Nat.reducePow] <;> omega
  have h2 : ∀ n : Nat, n < 8 → (a + 256 * (b + 256 * c)) / 2 ^ (n + 8) % 2 = b / 2 ^ n % 2 := by
    intro n hn
    have : n = 0 ∨ n = 1 ∨ n = 2 ∨ n = 3 ∨ n = 4 ∨ n = 5 ∨ n = 6 ∨ n = 7 := by omega
    rcases this with rfl | rfl | rfl | rfl | rfl | rfl | rfl | rfl <;> simp only [Nat.reducePow, Nat.reduceAdd] <;> omega
  have h3 : ∀ n : Nat, n < 8 → (a + 256 * (b + 256 * c)) / 2 ^ (n + 16) % 2 = c / 2 ^ n % 2 := by
    intro n hn
    have : n = 0 ∨ n = 1 ∨ n = 2 ∨ n = 3 ∨ n = 4 ∨ n = 5 ∨ n = 6 ∨ n = 7 := by omega
    rcases this with rfl | rfl | rfl | rfl | rfl | rfl | rfl | rfl <;> simp only [Nat.reducePow, Nat.reduceAdd] <;> omega
  have g := fun n hn => h n hn
  rw [h 0 (by decide), h 1 (by decide), h 2 (by decide), h 3 (by decide), h 4 (by decide), h 5 (by decide), h 6 (by decide), h 7 (by decide)]
  rw [h2 0 (by decide), h2 1 (by decide), h2 2 (by decide), h2 3 (by decide), h2 4 (by decide), h2 5 (by decide), h2 6 (by decide), h2 7 (by decide)]
  rw [h3 0 (by decide), h3 1 (by decide), h3 2 (by decide), h3 3 (by decide), h3 4 (by decide), h3 5 (by decide), h3 6 (by decide), h3 7 (by decide)]
  omega
theorem zq_last {p q r u v : Nat} (hp : p ≤ 8) (hq : q ≤ 8) (hr : r ≤ 8) (hu : p + 256 * (q + 256 * r) = u) (hv : u + u / 256 = v) : (v + v / 65536) % 64 = p + q + r := by
  have v1 : u / 256 = q + 256 * r := by omega
  have v2 : v = p + q + 256 * (q + r) + 65536 * r := by omega
  have v3 : v / 65536 = r := by omega
  rw [v3, v2]
  have v4 : p + q + 256 * (q + r) + 65536 * r + r = p + q + r + 64 * (4 * (q + r) + 1024 * r) := by omega
  rw [v4, Nat.add_mul_mod_self_left]
  exact Nat.mod_eq_of_lt (by omega)
theorem zqi_ush_eq {a k : Int} (h1 : 0 ≤ a) (h2 : a ≤ 2147483647) (k1 : 0 ≤ k) (k2 : k < 32) : zqi_ush a k = zqi_shr a k := by
  have h := z_ushr_ok (a := (a, a)) (b := (k, k)) (x := Int32.ofInt a) (y := Int32.ofInt k) (by rw [z_in, zqi_of (by omega) h2]; exact ⟨Int.le_refl _, Int.le_refl _⟩) (by rw [z_in, zqi_of (by omega) (by omega)]; exact ⟨Int.le_refl _, Int.le_refl _⟩)
  have e : z_ushr (a, a) (k, k) = (a / ((2 ^ k.toNat : Nat) : Int), a / ((2 ^ k.toNat : Nat) : Int)) := by
    unfold z_ushr z_shr
    rw [if_pos h1, if_pos ⟨k1, k2⟩, if_pos h1]
  rw [e] at h
  have h : a / ((2 ^ k.toNat : Nat) : Int) ≤ zqi_ush a k ∧ zqi_ush a k ≤ a / ((2 ^ k.toNat : Nat) : Int) := h
  rw [zqi_shr_eq (by omega) h2 k1 k2]
  omega
theorem zqi_shr_nat {a : Nat} {k : Nat} (h : a ≤ 2147483647) (hk : k < 32) : zqi_ush (a : Int) (k : Int) = ((a / 2 ^ k : Nat) : Int) := by
  rw [zqi_ush_eq (by omega) (by omega) (by omega) (by omega), zqi_shr_eq (by omega) (by omega) (by omega) (by omega), Int.toNat_natCast, Int.natCast_ediv]
theorem zqi_and_n {a b : Nat} (h : a ≤ 2147483647) (hk : b ≤ 2147483647) : zqi_and (a : Int) (b : Int) = ((a &&& b : Nat) : Int) := by
  rw [zqi_and_nat (by omega) (by omega) (by omega) (by omega), Int.toNat_natCast, Int.toNat_natCast]
theorem zqi_add_n {a b : Nat} (h : a + b ≤ 2147483647) : zqi_add (a : Int) (b : Int) = ((a + b : Nat) : Int) := by
  unfold zqi_add zn_ev
  show (Int32.ofInt (a : Int) + Int32.ofInt (b : Int)).toInt = _
  rw [Int32.toInt_add, zqi_of (by omega) (by omega), zqi_of (by omega) (by omega), z_bmod (by omega) (by omega)]
  omega
theorem zqi_sub_n {a b : Nat} (h : a ≤ 2147483647) (k : b ≤ a) : zqi_sub (a : Int) (b : Int) = ((a - b : Nat) : Int) := by
  unfold zqi_sub zn_ev
  show (Int32.ofInt (a : Int) - Int32.ofInt (b : Int)).toInt = _
  rw [Int32.toInt_sub, zqi_of (by omega) (by omega), zqi_of (by omega) (by omega), z_bmod (by omega) (by omega)]
  omega
/-- the bits below a place -/
def zq_cnt (t : Int) : Nat → Int
  | 0 => 0
  | n + 1 => zq_cnt t n + zs_bit t (n : Int)
theorem zq_cnt_in {t : Int} : ∀ n : Nat, 0 ≤ zq_cnt t n ∧ zq_cnt t n ≤ n
  | 0 => ⟨Int.le_refl _, Int.le_refl _⟩
  | n + 1 => by
    have h := zq_cnt_in (t := t) n
    have k := zs_bit01 (t := t) (i := (n : Int))
    show 0 ≤ zq_cnt t n + zs_bit t (n : Int) ∧ zq_cnt t n + zs_bit t (n : Int) ≤ ((n + 1 : Nat) : Int)
    omega
theorem zq_cnt_b (a _b _c _d : Int) : -2147483648 ≤ zq_cnt a 24 ∧ zq_cnt a 24 ≤ 2147483647 := by
  have := zq_cnt_in (t := a) 24
  omega
theorem zq_bit_n {a k : Nat} (h : a ≤ 2147483647) (hk : k < 32) : zs_bit (a : Int) (k : Int) = ((a / 2 ^ k % 2 : Nat) : Int) := by
  show zqi_and (zqi_shr (a : Int) (k : Int)) ((1 : Nat) : Int) = _
  have q : a / 2 ^ k ≤ a := Nat.div_le_self _ _
  rw [zqi_shr_eq (by omega) (by omega) (by omega) (by omega), Int.toNat_natCast, ← Int.natCast_ediv, zqi_and_n (by omega) (by decide), Nat.and_one_is_mod]
theorem zq_cnt_p {a : Nat} (h : a ≤ 2147483647) : ∀ n : Nat, n ≤ 32 → zq_cnt (a : Int) n = ((zq_p a n : Nat) : Int)
  | 0, _ => rfl
  | n + 1, hn => by
    show zq_cnt (a : Int) n + zs_bit (a : Int) (n : Int) = ((zq_p a n + a / 2 ^ n % 2 : Nat) : Int)
    rw [zq_cnt_p h n (by omega), zq_bit_n h (by omega)]
    omega
def zq_b1 (a : Int) : Int := zqi_sub a (zqi_and (zqi_ush a 1) 1431655765)
def zq_b2 (a : Int) : Int := zqi_add (zqi_and a 858993459) (zqi_and (zqi_ush a 2) 858993459)
def zq_b3 (a : Int) : Int := zqi_and (zqi_add a (zqi_ush a 4)) 252645135
def zq_b4 (a : Int) : Int := zqi_add a (zqi_ush a 8)
def zq_b5 (a : Int) : Int := zqi_add a (zqi_ush a 16)
theorem zq_bc {x : Int} (h1 : 0 ≤ x) (h2 : x ≤ 16777215) : zqi_and (zq_b5 (zq_b4 (zq_b3 (zq_b2 (zq_b1 x))))) 63 = zq_cnt x 24 := by
  obtain ⟨n, rfl⟩ : ∃ n : Nat, x = n := ⟨x.toNat, by omega⟩
  rw [zq_cnt_p (by omega) 24 (by decide)]
  obtain ⟨a, b, c, ha, hb, hc, e⟩ : ∃ a b c : Nat, a < 256 ∧ b < 256 ∧ c < 256 ∧ n = a + 256 * (b + 256 * c) := ⟨n % 256, n / 256 % 256, n / 65536, by omega, by omega, by omega, by omega⟩
  obtain ⟨a1, a2, -⟩ := zq_t_d a ha
  obtain ⟨b1, b2, -⟩ := zq_t_d b hb
  obtain ⟨c1, c2, -⟩ := zq_t_d c hc
  have hp := zq_pop ha hb hc
  rw [← e] at hp
  have l1 : (n / 2) &&& 1431655765 ≤ n / 2 := Nat.and_le_left
  have s1 : zq_b1 (n : Int) = ((zq_s1 1431655765 n : Nat) : Int) := by
    unfold zq_b1 zq_s1
    rw [show (1 : Int) = ((1 : Nat) : Int) from rfl, zqi_shr_nat (by omega) (by decide), show (2 : Nat) ^ 1 = 2 from rfl, show (1431655765 : Int) = ((1431655765 : Nat) : Int) from rfl, zqi_and_n (by omega) (by decide), zqi_sub_n (by omega) (by omega)]
  have q1 : zq_s1 1431655765 n ≤ n := by unfold zq_s1; omega
  rw [s1]
  generalize hy : zq_s1 1431655765 n = y at *
  have l2 : y &&& 858993459 ≤ y := Nat.and_le_left
  have l3 : (y / 4) &&& 858993459 ≤ y / 4 := Nat.and_le_left
  have s2 : zq_b2 (y : Int) = ((zq_s2 858993459 y : Nat) : Int) := by
    unfold zq_b2 zq_s2
    rw [show (2 : Int) = ((2 : Nat) : Int) from rfl, zqi_shr_nat (by omega) (by decide), show (2 : Nat) ^ 2 = 4 from rfl, show (858993459 : Int) = ((858993459 : Nat) : Int) from rfl, zqi_and_n (by omega) (by decide), zqi_and_n (by omega) (by decide), zqi_add_n (by omega)]
  have q2 : zq_s2 858993459 y ≤ 33554432 := by unfold zq_s2; omega
  rw [s2]
  generalize hz : zq_s2 858993459 y = z at *
  have s3 : zq_b3 (z : Int) = ((zq_s3 252645135 z : Nat) : Int) := by
    unfold zq_b3 zq_s3
    rw [show (4 : Int) = ((4 : Nat) : Int) from rfl, zqi_shr_nat (by omega) (by decide), show (2 : Nat) ^ 4 = 16 from rfl, zqi_add_n (by omega), show (252645135 : Int) = ((252645135 : Nat) : Int) from rfl, zqi_and_n (by omega) (by decide)]
  rw [s3, hp]
  generalize hu : zq_t a + 256 * (zq_t b + 256 * zq_t c) = u at *
  have s4 : zq_b4 (u : Int) = ((u + u / 256 : Nat) : Int) := by
    unfold zq_b4
    rw [show (8 : Int) = ((8 : Nat) : Int) from rfl, zqi_shr_nat (by omega) (by decide), show (2 : Nat) ^ 8 = 256 from rfl, zqi_add_n (by omega)]
  rw [s4]
  generalize hv : u + u / 256 = v at *
  have s5 : zq_b5 (v : Int) = ((v + v / 65536 : Nat) : Int) := by
    unfold zq_b5
    rw [show (16 : Int) = ((16 : Nat) : Int) from rfl, zqi_shr_nat (by omega) (by decide), show (2 : Nat) ^ 16 = 65536 from rfl, zqi_add_n (by omega)]
  rw [s5, show (63 : Int) = ((63 : Nat) : Int) from rfl, zqi_and_n (by omega) (by decide), show (63 : Nat) = 2 ^ 6 - 1 from rfl, Nat.and_two_pow_sub_one_eq_mod]
  have hn := zq_p24 ha hb hc
  rw [← e] at hn
  rw [hn, ← a1, ← b1, ← c1, show (2 : Nat) ^ 6 = 64 from rfl, zq_last a2 b2 c2 hu hv]
