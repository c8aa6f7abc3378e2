/-! 71.count, 73.land, 74.ship, 75.star, 76.walk, 77.hour, 80a.run, 80b.seg, 80c.sum, 80d.sum2 -/
section
/-! Integer.bitCount counts the bits. -/
theorem zs_andsplit (k a m q M : Nat) (ha : a < 2 ^ k) (hm : m < 2 ^ k) : (a + 2 ^ k * q) &&& (m + 2 ^ k * M) = (a &&& m) + 2 ^ k * (q &&& M) := by
  have h1 : ∀ x y : Nat, x < 2 ^ k → ∀ i, (x + 2 ^ k * y).testBit i = if i < k then x.testBit i else y.testBit (i - k) := fun x y hx i => by
    rw [Nat.add_comm, Nat.testBit_two_pow_mul_add _ hx]
  have hl : a &&& m < 2 ^ k := Nat.lt_of_le_of_lt Nat.and_le_left ha
  refine Nat.eq_of_testBit_eq fun i => ?_
  rw [Nat.testBit_and, h1 _ _ ha, h1 _ _ hm, h1 _ _ hl, Nat.testBit_and, Nat.testBit_and]
  by_cases h : i < k
  · rw [if_pos h, if_pos h, if_pos h]
  · rw [if_neg h, if_neg h, if_neg h]
def zs_s1 (M n : Nat) : Nat := n - ((n / 2) &&& M)
def zs_s2 (M n : Nat) : Nat := (n &&& M) + ((n / 4) &&& M)
def zs_s3 (M n : Nat) : Nat := (n + n / 16) &&& M
theorem zs_s1_d : ∀ a, a < 256 → ∀ c, c < 2 → (a / 2 + 128 * c) &&& 85 = (a / 2) &&& 85 := by decide +kernel
theorem zs_s1_split {a r M : Nat} (ha : a < 256) : zs_s1 (85 + 256 * M) (a + 256 * r) = zs_s1 85 a + 256 * zs_s1 M r := by
  unfold zs_s1
  have e : (a + 256 * r) / 2 = (a / 2 + 128 * (r % 2)) + 2 ^ 8 * (r / 2) := by omega
  have l1 : (a / 2) &&& 85 ≤ a / 2 := Nat.and_le_left
  have l2 : (r / 2) &&& M ≤ r / 2 := Nat.and_le_left
  rw [e, zs_andsplit 8 _ 85 _ M (by omega) (by decide), zs_s1_d a ha _ (by omega)]
  omega
theorem zs_s2_d : ∀ a, a < 256 → ∀ c, c < 4 → (a / 4 + 64 * c) &&& 51 = (a / 4) &&& 51 := by decide +kernel
theorem zs_s2_split {a r M : Nat} (ha : a < 256) : zs_s2 (51 + 256 * M) (a + 256 * r) = zs_s2 51 a + 256 * zs_s2 M r := by
  unfold zs_s2
  have e : (a + 256 * r) / 4 = (a / 4 + 64 * (r % 4)) + 2 ^ 8 * (r / 4) := by omega
  have q := zs_andsplit 8 a 51 r M (by omega) (by decide)
  rw [e, zs_andsplit 8 (a / 4 + 64 * (r % 4)) 51 (r / 4) M (by omega) (by decide), zs_s2_d a ha _ (by omega)]
  rw [show a + 256 * r = a + 2 ^ 8 * r from rfl, show 51 + 256 * M = 51 + 2 ^ 8 * M from rfl, q]
  omega
theorem zs_s3_d : ∀ a, a < 69 → ∀ c, c < 5 → (a + a / 16 + 16 * c) &&& 15 = (a + a / 16) &&& 15 := by decide +kernel
theorem zs_s3_split {a r M : Nat} (ha : a < 69) (hr : r % 16 < 5) : zs_s3 (15 + 256 * M) (a + 256 * r) = zs_s3 15 a + 256 * zs_s3 M r := by
  unfold zs_s3
  have e : a + 256 * r + (a + 256 * r) / 16 = (a + a / 16 + 16 * (r % 16)) + 2 ^ 8 * (r + r / 16) := by omega
  rw [e, zs_andsplit 8 _ 15 _ M (by omega) (by decide), zs_s3_d a ha _ hr]
/-- of a byte -/
def zs_t (a : Nat) : Nat := zs_s3 15 (zs_s2 51 (zs_s1 85 a))
def zs_p (n : Nat) : Nat → Nat
  | 0 => 0
  | k + 1 => zs_p n k + n / 2 ^ k % 2
theorem zs_t_d : ∀ a, a < 256 → zs_t a = zs_p a 8 ∧ zs_t a ≤ 8 ∧ zs_s1 85 a < 256 ∧ zs_s2 51 (zs_s1 85 a) < 69 ∧ zs_s2 51 (zs_s1 85 a) % 16 < 5 := by decide +kernel
theorem zs_t_c : ∀ a, a < 256 → zs_s1 21845 a = zs_s1 85 a ∧ zs_s1 5592405 a = zs_s1 85 a ∧ zs_s2 13107 (zs_s1 85 a) = zs_s2 51 (zs_s1 85 a) ∧ zs_s3 3855 (zs_s2 51 (zs_s1 85 a)) = zs_t a := by decide +kernel
/-- the whole, in bytes -/
theorem zs_pop {a b c : Nat} (ha : a < 256) (hb : b < 256) (hc : c < 256) : zs_s3 252645135 (zs_s2 858993459 (zs_s1 1431655765 (a + 256 * (b + 256 * c)))) = zs_t a + 256 * (zs_t b + 256 * zs_t c) := by
  obtain ⟨a1, a2, a3, a4, a5⟩ := zs_t_d a ha
  obtain ⟨b1, b2, b3, b4, b5⟩ := zs_t_d b hb
  obtain ⟨c1, c2, c3, c4, c5⟩ := zs_t_d c hc
  obtain ⟨d1, d2, d3, d4⟩ := zs_t_c c hc
  have e1 : zs_s1 1431655765 (a + 256 * (b + 256 * c)) = zs_s1 85 a + 256 * (zs_s1 85 b + 256 * zs_s1 85 c) := by
    rw [show 1431655765 = 85 + 256 * (85 + 256 * 21845) from rfl, zs_s1_split ha, zs_s1_split hb, d1]
  have e2 : zs_s2 858993459 (zs_s1 85 a + 256 * (zs_s1 85 b + 256 * zs_s1 85 c)) = zs_s2 51 (zs_s1 85 a) + 256 * (zs_s2 51 (zs_s1 85 b) + 256 * zs_s2 51 (zs_s1 85 c)) := by
    rw [show 858993459 = 51 + 256 * (51 + 256 * 13107) from rfl, zs_s2_split a3, zs_s2_split b3, d3]
  rw [e1, e2, show 252645135 = 15 + 256 * (15 + 256 * 3855) from rfl, zs_s3_split a4 (by omega), zs_s3_split b4 (by omega), d4]
  rfl
theorem zs_p24 {a b c : Nat} (ha : a < 256) (hb : b < 256) (hc : c < 256) : zs_p (a + 256 * (b + 256 * c)) 24 = zs_p a 8 + zs_p b 8 + zs_p c 8 := by
  simp only [zs_p]
  have h : ∀ n : Nat, n < 8 → (a + 256 * (b + 256 * c)) / 2 ^ n % 2 = a / 2 ^ n % 2 := by
    intro n hn
    have : n = 0 ∨ n = 1 ∨ n = 2 ∨ n = 3 ∨ n = 4 ∨ n = 5 ∨ n = 6 ∨ n = 7 := by omega
    rcases this with rfl | rfl | rfl | rfl | rfl | rfl | rfl | rfl <;> simp only [Nat.reducePow] <;> omega
  have h2 : ∀ n : Nat, n < 8 → (a + 256 * (b + 256 * c)) / 2 ^ (n + 8) % 2 = b / 2 ^ n % 2 := by
    intro n hn
    have : n = 0 ∨ n = 1 ∨ n = 2 ∨ n = 3 ∨ n = 4 ∨ n = 5 ∨ n = 6 ∨ n = 7 := by omega
    rcases this with rfl | rfl | rfl | rfl | rfl | rfl | rfl | rfl <;> simp only [Nat.reducePow, Nat.reduceAdd] <;> omega
  have h3 : ∀ n : Nat, n < 8 → (a + 256 * (b + 256 * c)) / 2 ^ (n + 16) % 2 = c / 2 ^ n % 2 := by
    intro n hn
    have : n = 0 ∨ n = 1 ∨ n = 2 ∨ n = 3 ∨ n = 4 ∨ n = 5 ∨ n = 6 ∨ n = 7 := by omega
    rcases this with rfl | rfl | rfl | rfl | rfl | rfl | rfl | rfl <;> simp only [Nat.reducePow, Nat.reduceAdd] <;> omega
  have g := fun n hn => h n hn
  rw [h 0 (by decide), h 1 (by decide), h 2 (by decide), h 3 (by decide), h 4 (by decide), h 5 (by decide), h 6 (by decide), h 7 (by decide)]
  rw [h2 0 (by decide), h2 1 (by decide), h2 2 (by decide), h2 3 (by decide), h2 4 (by decide), h2 5 (by decide), h2 6 (by decide), h2 7 (by decide)]
  rw [h3 0 (by decide), h3 1 (by decide), h3 2 (by decide), h3 3 (by decide), h3 4 (by decide), h3 5 (by decide), h3 6 (by decide), h3 7 (by decide)]
  omega
theorem zs_last {p q r u v : Nat} (hp : p ≤ 8) (hq : q ≤ 8) (hr : r ≤ 8) (hu : p + 256 * (q + 256 * r) = u) (hv : u + u / 256 = v) : (v + v / 65536) % 64 = p + q + r := by
  have v1 : u / 256 = q + 256 * r := by omega
  have v2 : v = p + q + 256 * (q + r) + 65536 * r := by omega
  have v3 : v / 65536 = r := by omega
  rw [v3, v2]
  have v4 : p + q + 256 * (q + r) + 65536 * r + r = p + q + r + 64 * (4 * (q + r) + 1024 * r) := by omega
  rw [v4, Nat.add_mul_mod_self_left]
  exact Nat.mod_eq_of_lt (by omega)
theorem zs_sum_p {t : Int} : ∀ n : Nat, zs_sum t n = (zs_p t.toNat n : Int)
  | 0 => rfl
  | n + 1 => by
    show zs_sum t n + (if zi_tb t (n : Int) = true then 1 else 0) = ((zs_p t.toNat n + t.toNat / 2 ^ n % 2 : Nat) : Int)
    rw [zs_sum_p n]
    unfold zi_tb
    rw [Int.toNat_natCast, Nat.testBit_eq_decide_div_mod_eq]
    have : t.toNat / 2 ^ n % 2 = 0 ∨ t.toNat / 2 ^ n % 2 = 1 := by omega
    rcases this with e | e <;> rw [e] <;> simp
theorem zi_ush_eq {a k : Int} (h1 : 0 ≤ a) (h2 : a ≤ 2147483647) (k1 : 0 ≤ k) (k2 : k < 32) : zi_ush a k = zi_shr a k := by
  have h := z_ushr_ok (a := (a, a)) (b := (k, k)) (x := Int32.ofInt a) (y := Int32.ofInt k) (by rw [z_in, zi_of (by omega) h2]; exact ⟨Int.le_refl _, Int.le_refl _⟩) (by rw [z_in, zi_of (by omega) (by omega)]; exact ⟨Int.le_refl _, Int.le_refl _⟩)
  have e : z_ushr (a, a) (k, k) = (a / ((2 ^ k.toNat : Nat) : Int), a / ((2 ^ k.toNat : Nat) : Int)) := by
    unfold z_ushr z_shr
    rw [if_pos h1, if_pos ⟨k1, k2⟩, if_pos h1]
  rw [e] at h
  have h : a / ((2 ^ k.toNat : Nat) : Int) ≤ zi_ush a k ∧ zi_ush a k ≤ a / ((2 ^ k.toNat : Nat) : Int) := h
  rw [zi_shr_eq (by omega) h2 k1 k2]
  omega
theorem zi_shr_nat {a : Nat} {k : Nat} (h : a ≤ 2147483647) (hk : k < 32) : zi_ush (a : Int) (k : Int) = ((a / 2 ^ k : Nat) : Int) := by
  rw [zi_ush_eq (by omega) (by omega) (by omega) (by omega), zi_shr_eq (by omega) (by omega) (by omega) (by omega), Int.toNat_natCast, Int.natCast_ediv]
theorem zi_and_n {a b : Nat} (h : a ≤ 2147483647) (hk : b ≤ 2147483647) : zi_and (a : Int) (b : Int) = ((a &&& b : Nat) : Int) := by
  rw [zi_and_nat (by omega) (by omega) (by omega) (by omega), Int.toNat_natCast, Int.toNat_natCast]
theorem zi_w_n {a : Nat} (h : a ≤ 2147483647) : zi_w (a : Int) = (a : Int) := zi_w_id (by omega) (by omega)
theorem ze_bitCount {x : Int} (h1 : 0 ≤ x) (h2 : x < 16777216) : zf_Integer_bitCount x = some (zs_sum x 24) := by
  obtain ⟨n, rfl⟩ : ∃ n : Nat, x = n := ⟨x.toNat, by omega⟩
  rw [zs_sum_p, Int.toNat_natCast]
  obtain ⟨a, b, c, ha, hb, hc, e⟩ : ∃ a b c : Nat, a < 256 ∧ b < 256 ∧ c < 256 ∧ n = a + 256 * (b + 256 * c) := ⟨n % 256, n / 256 % 256, n / 65536, by omega, by omega, by omega, by omega⟩
  obtain ⟨a1, a2, -⟩ := zs_t_d a ha
  obtain ⟨b1, b2, -⟩ := zs_t_d b hb
  obtain ⟨c1, c2, -⟩ := zs_t_d c hc
  have hp := zs_pop ha hb hc
  rw [← e] at hp
  unfold zf_Integer_bitCount zi_let
  have l1 : (n / 2) &&& 1431655765 ≤ n / 2 := Nat.and_le_left
  have s1 : zi_w ((n : Int) - zi_and (zi_ush (n : Int) 1) 1431655765) = ((zs_s1 1431655765 n : Nat) : Int) := by
    rw [show (1 : Int) = ((1 : Nat) : Int) from rfl, zi_shr_nat (by omega) (by decide), show (2 : Nat) ^ 1 = 2 from rfl, show (1431655765 : Int) = ((1431655765 : Nat) : Int) from rfl, zi_and_n (by omega) (by decide)]
    unfold zs_s1
    rw [zi_w_id (by omega) (by omega)]
    omega
  have q1 : zs_s1 1431655765 n ≤ n := by unfold zs_s1; omega
  generalize hy : zs_s1 1431655765 n = y at *
  have l2 : y &&& 858993459 ≤ y := Nat.and_le_left
  have l3 : (y / 4) &&& 858993459 ≤ y / 4 := Nat.and_le_left
  have s2 : zi_w (zi_and (y : Int) 858993459 + zi_and (zi_ush (y : Int) 2) 858993459) = ((zs_s2 858993459 y : Nat) : Int) := by
    rw [show (2 : Int) = ((2 : Nat) : Int) from rfl, zi_shr_nat (by omega) (by decide), show (2 : Nat) ^ 2 = 4 from rfl, show (858993459 : Int) = ((858993459 : Nat) : Int) from rfl, zi_and_n (by omega) (by decide), zi_and_n (by omega) (by decide)]
    unfold zs_s2
    rw [zi_w_id (by omega) (by omega)]
    omega
  have q2 : zs_s2 858993459 y ≤ 33554432 := by unfold zs_s2; omega
  rw [s1, s2]
  dsimp only
  generalize hz : zs_s2 858993459 y = z at *
  have s3 : zi_and (zi_w ((z : Int) + zi_ush (z : Int) 4)) 252645135 = ((zs_s3 252645135 z : Nat) : Int) := by
    rw [show (4 : Int) = ((4 : Nat) : Int) from rfl, zi_shr_nat (by omega) (by decide), show ((z : Int) + ((z / 2 ^ 4 : Nat) : Int)) = ((z + z / 16 : Nat) : Int) by omega, zi_w_n (by omega), show (252645135 : Int) = ((252645135 : Nat) : Int) from rfl, zi_and_n (by omega) (by decide)]
    rfl
  rw [s3, hp]
  generalize hu : zs_t a + 256 * (zs_t b + 256 * zs_t c) = u at *
  have s4 : zi_w ((u : Int) + zi_ush (u : Int) 8) = ((u + u / 256 : Nat) : Int) := by
    rw [show (8 : Int) = ((8 : Nat) : Int) from rfl, zi_shr_nat (by omega) (by decide), show ((u : Int) + ((u / 2 ^ 8 : Nat) : Int)) = ((u + u / 256 : Nat) : Int) by omega, zi_w_n (by omega)]
  rw [s4]
  generalize hv : u + u / 256 = v at *
  have s5 : zi_w ((v : Int) + zi_ush (v : Int) 16) = ((v + v / 65536 : Nat) : Int) := by
    rw [show (16 : Int) = ((16 : Nat) : Int) from rfl, zi_shr_nat (by omega) (by decide), show ((v : Int) + ((v / 2 ^ 16 : Nat) : Int)) = ((v + v / 65536 : Nat) : Int) by omega, zi_w_n (by omega)]
  rw [s5, show (63 : Int) = ((63 : Nat) : Int) from rfl, zi_and_n (by omega) (by decide), show (63 : Nat) = 2 ^ 6 - 1 from rfl, Nat.and_two_pow_sub_one_eq_mod]
  have hn := zs_p24 ha hb hc
  rw [← e] at hn
  rw [hn, ← a1, ← b1, ← c1, show (2 : Nat) ^ 6 = 64 from rfl, zs_last a2 b2 c2 hu hv]
end
section
/-! Land and ships: rows of bits against cells, ships' places; what land and ship do, on both sides. -/
theorem zl_b {α β : Type} {a : α} {f : α → Option β} : (some a).bind f = f a := rfl
theorem zl_c {α : Type} {b : Bool} {x : Option α} (h : b = true) : (cond b x none) = x := by rw [h]; rfl
/-- a row with one bit put -/
def zl_row (v x b : Int) : Int := if b = 0 then zi_and v (zi_xor (zi_shl 1 x) (-1)) else zi_or v (zi_shl 1 x)
theorem zl_row_tb {v x b j : Int} (h1 : 0 ≤ v) (h2 : v ≤ 16777215) (x1 : 0 ≤ x) (x2 : x < 24) (j1 : 0 ≤ j) (j2 : j < 24) : zi_tb (zl_row v x b) j = if j = x then decide (b ≠ 0) else zi_tb v j := by
  unfold zl_row
  by_cases hb : b = 0
  · rw [if_pos hb, (zi_clr h1 (by omega) x1 (by omega)).2.2 j j1 (by omega)]
    by_cases e : j = x
    · rw [if_pos e, e]; simp [hb]
    · rw [if_neg e, decide_eq_true e, Bool.and_true]
  · rw [if_neg hb, zi_set_tb h1 (by omega) x1 (by omega) j j1]
    by_cases e : j = x
    · rw [if_pos e, e]; simp [hb]
    · rw [if_neg e, decide_eq_false e, Bool.or_false]
theorem zl_row_in {v x b : Int} (h1 : 0 ≤ v) (h2 : v ≤ 16777215) (x1 : 0 ≤ x) (x2 : x < 24) : 0 ≤ zl_row v x b ∧ zl_row v x b ≤ 16777215 := by
  unfold zl_row
  split
  · have := zi_clr h1 (by omega : v ≤ 2147483647) x1 (by omega : x < 31)
    omega
  · rw [zi_set h1 (by omega) x1 (by omega)]
    have hx : 2 ^ x.toNat < 2 ^ 24 := Nat.pow_lt_pow_right (by decide) (by omega)
    have := Nat.or_lt_two_pow (n := 24) (show v.toNat < 2 ^ 24 by omega) hx
    omega
/-- a ship that is told stands there, from one on -/
def zl_from (t : Int) (g : Int → Int) (p k : Int) : Prop := ∃ s : Int, k ≤ s ∧ s < 6 ∧ zi_tb t s = true ∧ g s = p
theorem zl_from_s {t p k : Int} {g : Int → Int} (h : ¬ (zi_tb t k = true ∧ g k = p)) : zl_from t g p k ↔ zl_from t g p (k + 1) :=
  ⟨fun ⟨s, a, b, c, d⟩ => ⟨s, (by
    by_cases e : s = k
    · subst e; exact absurd ⟨c, d⟩ h
    · omega), b, c, d⟩, fun ⟨s, a, b, c, d⟩ => ⟨s, by omega, b, c, d⟩⟩
theorem ze_hasShipAt_l0 {t p : Int} {g : Int → Int} (h1 : 0 ≤ t) (h2 : t ≤ 2147483647) : ∀ (m k n : Nat), k + m = 6 → m < n → (zl_from t g p k → zf_Sea_hasShipAt_l0 p t g n (k : Int) = some (.inr 1)) ∧ (¬ zl_from t g p k → zf_Sea_hasShipAt_l0 p t g n (k : Int) = some (.inl ())) := by
  intro m
  induction m with
  | zero =>
    intro k n e hn
    obtain ⟨n, rfl⟩ : ∃ q, n = q + 1 := ⟨n - 1, by omega⟩
    have hno : ¬ zl_from t g p k := fun ⟨s, a, b, _⟩ => by omega
    refine ⟨fun h => absurd h hno, fun _ => ?_⟩
    show zf_Sea_hasShipAt_l0_b p t g (zf_Sea_hasShipAt_l0 p t g n) (k : Int) = _
    unfold zf_Sea_hasShipAt_l0_b
    rw [if_neg (by omega)]
  | succ m ih =>
    intro k n e hn
    obtain ⟨n, rfl⟩ : ∃ q, n = q + 1 := ⟨n - 1, by omega⟩
    have hi := ih (k + 1) n (by omega) (by omega)
    rw [show ((k + 1 : Nat) : Int) = (k : Int) + 1 by omega] at hi
    show (zl_from t g p k → zf_Sea_hasShipAt_l0_b p t g (zf_Sea_hasShipAt_l0 p t g n) (k : Int) = _) ∧ (¬ zl_from t g p k → zf_Sea_hasShipAt_l0_b p t g (zf_Sea_hasShipAt_l0 p t g n) (k : Int) = _)
    unfold zf_Sea_hasShipAt_l0_b
    rw [if_pos (by omega), ze_Sea_hasShip h1 h2, zl_b, zi_w_id (x := (k : Int) + 1) (by omega) (by omega), zl_c (zi_ix_of (by omega) (by omega))]
    by_cases hb : zi_tb t (k : Int) = true
    · rw [show zs_has 6 t (k : Int) = 1 from if_pos ⟨by omega, by omega, hb⟩, if_neg (by decide)]
      by_cases hp : g (k : Int) = p
      · rw [if_pos hp]
        exact ⟨fun _ => rfl, fun h => absurd ⟨(k : Int), Int.le_refl _, by omega, hb, hp⟩ h⟩
      · rw [if_neg hp, zl_from_s (fun h => hp h.2)]
        exact hi
    · rw [show zs_has 6 t (k : Int) = 0 from if_neg (fun h => hb h.2.2), if_pos rfl, zl_from_s (fun h => hb h.1)]
      exact hi
theorem ze_hasShipAt {t p : Int} {g : Int → Int} (h1 : 0 ≤ t) (h2 : t ≤ 2147483647) : (zl_from t g p 0 → zf_Sea_hasShipAt p t g = some 1) ∧ (¬ zl_from t g p 0 → zf_Sea_hasShipAt p t g = some 0) := by
  have h := ze_hasShipAt_l0 (p := p) (g := g) h1 h2 6 0 zi_fu rfl (by decide)
  unfold zf_Sea_hasShipAt
  exact ⟨fun k => by rw [show zf_Sea_hasShipAt_l0 p t g zi_fu 0 = _ from h.1 k]; rfl, fun k => by rw [show zf_Sea_hasShipAt_l0 p t g zi_fu 0 = _ from h.2 k]; rfl⟩
theorem ze_M_land_l0 {x y : Int} {g : Int → Int} (h1 : 0 ≤ g 127) (h2 : g 127 ≤ 2147483647) (x1 : 0 ≤ x) (x2 : x < 24) (y1 : 0 ≤ y) (y2 : y < 12) : ∀ (m k n : Nat), k + m = 6 → m < n → (zl_from (g 127) (fun s => g (120 + s)) (24 * y + x) k → zf_M_land_l0 x y g n (k : Int) = some (.inr (0, g))) ∧ (¬ zl_from (g 127) (fun s => g (120 + s)) (24 * y + x) k → zf_M_land_l0 x y g n (k : Int) = some (.inl ())) := by
  intro m
  induction m with
  | zero =>
    intro k n e hn
    obtain ⟨n, rfl⟩ : ∃ q, n = q + 1 := ⟨n - 1, by omega⟩
    have hno : ¬ zl_from (g 127) (fun s => g (120 + s)) (24 * y + x) k := fun ⟨s, a, b, _⟩ => by omega
    refine ⟨fun h => absurd h hno, fun _ => ?_⟩
    show zf_M_land_l0_b x y g (zf_M_land_l0 x y g n) (k : Int) = _
    unfold zf_M_land_l0_b
    rw [if_neg (by omega)]
  | succ m ih =>
    intro k n e hn
    obtain ⟨n, rfl⟩ : ∃ q, n = q + 1 := ⟨n - 1, by omega⟩
    have hi := ih (k + 1) n (by omega) (by omega)
    rw [show ((k + 1 : Nat) : Int) = (k : Int) + 1 by omega] at hi
    show (zl_from (g 127) (fun s => g (120 + s)) (24 * y + x) k → zf_M_land_l0_b x y g (zf_M_land_l0 x y g n) (k : Int) = _) ∧ (¬ zl_from (g 127) (fun s => g (120 + s)) (24 * y + x) k → zf_M_land_l0_b x y g (zf_M_land_l0 x y g n) (k : Int) = _)
    unfold zf_M_land_l0_b
    rw [if_pos (by omega), ze_M_isShip h1 h2, zl_b, zi_w_id (x := (k : Int) + 1) (by omega) (by omega), zi_w_id (x := 120 + (k : Int)) (by omega) (by omega), zi_w_id (x := 24 * y) (by omega) (by omega), zi_w_id (x := 24 * y + x) (by omega) (by omega), zl_c (zi_ix_of (by omega) (by omega))]
    by_cases hb : zi_tb (g 127) (k : Int) = true
    · rw [show zs_has 6 (g 127) (k : Int) = 1 from if_pos ⟨by omega, by omega, hb⟩, if_neg (by decide)]
      by_cases hp : g (120 + (k : Int)) = 24 * y + x
      · rw [if_pos hp]
        exact ⟨fun _ => rfl, fun h => absurd ⟨(k : Int), Int.le_refl _, by omega, hb, hp⟩ h⟩
      · rw [if_neg hp, zl_from_s (g := fun s => g (120 + s)) (fun h => hp h.2)]
        exact hi
    · rw [show zs_has 6 (g 127) (k : Int) = 0 from if_neg (fun h => hb h.2.2), if_pos rfl, zl_from_s (fun h => hb h.1)]
      exact hi
/-- class and reference: told ships, their places, the land -/
def zl_rel (t : Int) (gp gl m : Int → Int) : Prop := 0 ≤ t ∧ t ≤ 63 ∧ m 127 = t ∧ (∀ s, 0 ≤ s → s < 6 → m (120 + s) = gp s) ∧ (∀ y, 0 ≤ y → y < 12 → 0 ≤ gl y ∧ gl y ≤ 16777215) ∧
  ∀ x y, 0 ≤ x → x < 24 → 0 ≤ y → y < 12 → m (134 + (24 * y + x)) = if zi_tb (gl y) x = true then 1 else 0
theorem zl_from_eq {t p : Int} {gp gl m : Int → Int} (h : zl_rel t gp gl m) : zl_from (m 127) (fun s => m (120 + s)) p 0 ↔ zl_from t gp p 0 := by
  obtain ⟨-, -, e, hs, -⟩ := h
  rw [e]
  exact ⟨fun ⟨s, a, b, c, d⟩ => ⟨s, a, b, c, by rw [← hs s a b]; exact d⟩, fun ⟨s, a, b, c, d⟩ => ⟨s, a, b, c, (hs s a b).trans d⟩⟩
theorem ze_setLand {x y b : Int} {g : Int → Int} (y1 : 0 ≤ y) (y2 : y < 12) : zf_Sea_setLand x y b g = some (zv_up g y (zl_row (g y) x b)) := by
  unfold zf_Sea_setLand zl_row
  by_cases hb : b = 0
  · rw [if_pos hb, if_pos hb, zl_c (zi_ix_of y1 y2)]
  · rw [if_neg hb, if_neg hb, zl_c (zi_ix_of y1 y2)]
theorem zl_land {x y b t : Int} {gp gl m : Int → Int} (h : zl_rel t gp gl m) : ∃ a gl' m', zf_X_land x y b t gp gl = some (a, gl') ∧ zf_M_land x y b m = some (a, m') ∧ zl_rel t gp gl' m' ∧ (∀ j, j < 134 → m' j = m j) := by
  have hf := fun p => zl_from_eq (p := p) h
  obtain ⟨t1, t2, e, hs, hr, hl⟩ := id h
  unfold zf_X_land zf_M_land
  rw [ze_X_isPlace, ze_M_isPlace, zl_b, zl_b]
  by_cases hp : zs_pl x y = 0
  · rw [if_pos hp, if_pos hp]
    exact ⟨0, gl, m, rfl, rfl, h, fun _ _ => rfl⟩
  · rw [if_neg hp, if_neg hp]
    obtain ⟨x1, x2, y1, y2⟩ := zs_pl_ne hp
    rw [ze_X_placeOf x1 x2 y1 y2, zl_b]
    have hX := ze_hasShipAt (p := 24 * y + x) (g := gp) t1 (by omega)
    have hM := ze_M_land_l0 (x := x) (y := y) (g := m) (by omega) (by omega) x1 x2 y1 y2 6 0 zi_fu rfl (by decide)
    by_cases hc : zl_from t gp (24 * y + x) 0
    · rw [hX.1 hc, show zf_M_land_l0 x y m zi_fu 0 = _ from hM.1 ((hf _).mpr hc), zl_b, zl_b, if_neg (by decide)]
      exact ⟨0, gl, m, rfl, rfl, h, fun _ _ => rfl⟩
    · rw [hX.2 hc, show zf_M_land_l0 x y m zi_fu 0 = _ from hM.2 (fun k => hc ((hf _).mp k)), zl_b, zl_b, if_pos rfl, ze_setLand y1 y2, zl_b]
      refine ⟨1, _, zv_up m (134 + (24 * y + x)) (if b = 0 then 0 else 1), rfl, ?_, ⟨t1, t2, ?_, ?_, ?_, ?_⟩, ?_⟩
      · show (if b = 0 then _ else _) = _
        rw [zi_w_id (x := 24 * y) (by omega) (by omega), zi_w_id (x := 134 + 24 * y) (by omega) (by omega), zi_w_id (x := 134 + 24 * y + x) (by omega) (by omega), show 134 + 24 * y + x = 134 + (24 * y + x) by omega, zl_c (zi_ix_of (by omega) (by omega)), zl_c (zi_ix_of (by omega) (by omega))]
        by_cases hb : b = 0
        · rw [if_pos hb, if_pos hb]
        · rw [if_neg hb, if_neg hb]
      · rw [zv_up_n (by omega)]; exact e
      · intro s s1 s2
        rw [zv_up_n (by omega)]; exact hs s s1 s2
      · intro y' a1 a2
        by_cases ey : y' = y
        · rw [ey, zv_up_s]; exact zl_row_in (hr y y1 y2).1 (hr y y1 y2).2 x1 x2
        · rw [zv_up_n ey]; exact hr y' a1 a2
      · intro x' y' a1 a2 b1 b2
        by_cases ey : y' = y
        · subst ey
          rw [zv_up_s, zl_row_tb (hr y' y1 y2).1 (hr y' y1 y2).2 x1 x2 a1 a2]
          by_cases ex : x' = x
          · subst ex
            rw [zv_up_s, if_pos rfl]
            by_cases hb : b = 0
            · rw [if_pos hb]; simp [hb]
            · rw [if_neg hb]; simp [hb]
          · rw [zv_up_n (by omega), if_neg ex]; exact hl x' y' a1 a2 b1 b2
        · rw [zv_up_n ey, zv_up_n (by omega)]; exact hl x' y' a1 a2 b1 b2
      · intro j hj
        exact zv_up_n (by omega)
end
section
/-! What ship does, on both sides; what is land. -/
theorem ze_Sea_isLand {p : Int} {g : Int → Int} (h1 : 0 ≤ p) (h2 : p < 288) (hr : ∀ y, 0 ≤ y → y < 12 → 0 ≤ g y ∧ g y ≤ 16777215) : zf_Sea_isLand p g = some (if zi_tb (g (p / 24)) (p % 24) = true then 1 else 0) := by
  have hq := hr (p / 24) (by omega) (by omega)
  unfold zf_Sea_isLand
  rw [ze_X_rowOf h1 h2, zl_b, zl_c (zi_ix_of (by omega) (by omega)), ze_X_columnOf h1 h2, zl_b]
  obtain ⟨c1, c2⟩ := zs_b01 (t := g (p / 24)) (i := p % 24) hq.1 (by omega) (by omega) (by omega)
  by_cases c : zi_tb (g (p / 24)) (p % 24) = true
  · rw [c1 c, if_neg (by decide), if_pos c]
  · rw [c2 c, if_pos rfl, if_neg c]
theorem ze_M_isLand {p : Int} {m : Int → Int} (h1 : 0 ≤ p) (h2 : p < 288) : zf_M_isLand p m = some (if m (134 + p) = 1 then 1 else 0) := by
  unfold zf_M_isLand
  rw [zi_w_id (x := 134 + p) (by omega) (by omega), zl_c (zi_ix_of (by omega) (by omega))]
  by_cases c : m (134 + p) = 1
  · rw [if_pos c, if_pos c]
  · rw [if_neg c, if_neg c]
theorem zl_is {p t : Int} {gp gl m : Int → Int} (h : zl_rel t gp gl m) (h1 : 0 ≤ p) (h2 : p < 288) : zf_M_isLand p m = zf_Sea_isLand p gl := by
  obtain ⟨-, -, -, -, hr, hl⟩ := h
  rw [ze_M_isLand h1 h2, ze_Sea_isLand h1 h2 hr]
  have := hl (p % 24) (p / 24) (by omega) (by omega) (by omega) (by omega)
  rw [show 134 + (24 * (p / 24) + p % 24) = 134 + p by omega] at this
  rw [this]
  by_cases c : zi_tb (gl (p / 24)) (p % 24) = true
  · rw [if_pos c]; rfl
  · rw [if_neg c]; rfl
theorem zl_or_in {t i : Int} (h1 : 0 ≤ t) (h2 : t ≤ 63) (k1 : 0 ≤ i) (k2 : i < 6) : 0 ≤ zi_or t (zi_shl 1 i) ∧ zi_or t (zi_shl 1 i) ≤ 63 := by
  rw [zi_set h1 (by omega) k1 (by omega)]
  have hx : 2 ^ i.toNat < 2 ^ 6 := Nat.pow_lt_pow_right (by decide) (by omega)
  have := Nat.or_lt_two_pow (n := 6) (show t.toNat < 2 ^ 6 by omega) hx
  omega
theorem zl_ship {s x y t : Int} {gp gl m : Int → Int} (h : zl_rel t gp gl m) : ∃ a t' gp' m', zf_X_ship s x y t gl gp = some (a, t', gp') ∧ zf_M_ship s x y m = some (a, m') ∧ zl_rel t' gp' gl m' ∧ (∀ j, j < 120 → m' j = m j) ∧ ∀ j, 128 ≤ j → m' j = m j := by
  obtain ⟨t1, t2, e, hs, hr, hl⟩ := id h
  unfold zf_X_ship zf_M_ship
  rw [ze_X_isWithin, ze_M_in, zl_b, zl_b]
  by_cases hi : zs_in s 0 5 = 0
  · rw [if_pos hi, if_pos hi]
    exact ⟨0, t, gp, m, rfl, rfl, h, fun _ _ => rfl, fun _ _ => rfl⟩
  · rw [if_neg hi, if_neg hi]
    obtain ⟨s1, s2⟩ := zs_in_ne hi
    rw [ze_X_isPlace, ze_M_isPlace, zl_b, zl_b]
    by_cases hp : zs_pl x y = 0
    · rw [if_pos hp, if_pos hp]
      exact ⟨0, t, gp, m, rfl, rfl, h, fun _ _ => rfl, fun _ _ => rfl⟩
    · rw [if_neg hp, if_neg hp]
      obtain ⟨x1, x2, y1, y2⟩ := zs_pl_ne hp
      rw [ze_X_placeOf x1 x2 y1 y2, zl_b, zl_b, zi_w_id (x := 24 * y) (by omega) (by omega), zi_w_id (x := 24 * y + x) (by omega) (by omega), zl_is h (by omega) (by omega), ze_Sea_isLand (by omega) (by omega) hr, zl_b, zl_b]
      by_cases c : zi_tb (gl ((24 * y + x) / 24)) ((24 * y + x) % 24) = true
      · rw [if_pos c, if_neg (by decide), if_neg (by decide)]
        exact ⟨0, t, gp, m, rfl, rfl, h, fun _ _ => rfl, fun _ _ => rfl⟩
      · rw [if_neg c, if_pos rfl, if_pos rfl, zi_w_id (x := 120 + s) (by omega) (by omega), zl_c (zi_ix_of (by omega) (by omega)), zl_c (zi_ix_of (by omega) (by omega))]
        obtain ⟨o1, o2⟩ := zl_or_in t1 t2 s1 (by omega : s < 6)
        refine ⟨1, _, _, _, rfl, rfl, ⟨o1, o2, ?_, ?_, hr, ?_⟩, ?_, ?_⟩
        · rw [zv_up_n (by omega), zv_up_s, e]
        · intro k k1 k2
          by_cases ek : k = s
          · subst ek; rw [zv_up_s, zv_up_s]
          · rw [zv_up_n (by omega), zv_up_n (by omega), zv_up_n ek]; exact hs k k1 k2
        · intro x' y' a1 a2 b1 b2
          rw [zv_up_n (by omega), zv_up_n (by omega)]; exact hl x' y' a1 a2 b1 b2
        · intro j hj
          rw [zv_up_n (by omega), zv_up_n (by omega)]
        · intro j hj
          rw [zv_up_n (by omega), zv_up_n (by omega)]
end
section
/-! What star, walk and gone do, and what starIs answers, on both sides. -/
def zl_sky (t h : Int) (co ro br wc wr m : Int → Int) : Prop := (0 ≤ t ∧ t ≤ 16777215 ∧ m 126 = t) ∧ (0 ≤ h ∧ h ≤ 23 ∧ m 128 = h) ∧
  ∀ i, 0 ≤ i → i < 24 → (m i = co i ∧ m (24 + i) = ro i ∧ m (48 + i) = br i ∧ m (72 + i) = wc i ∧ m (96 + i) = wr i) ∧ (0 ≤ co i ∧ co i ≤ 23 ∧ 0 ≤ ro i ∧ ro i ≤ 11 ∧ 0 ≤ br i ∧ br i ≤ 9 ∧ -3 ≤ wc i ∧ wc i ≤ 3 ∧ -3 ≤ wr i ∧ wr i ≤ 3)
theorem zl_or24 {t i : Int} (h1 : 0 ≤ t) (h2 : t ≤ 16777215) (k1 : 0 ≤ i) (k2 : i < 24) : 0 ≤ zi_or t (zi_shl 1 i) ∧ zi_or t (zi_shl 1 i) ≤ 16777215 := zl_row_in (b := 1) h1 h2 k1 k2
theorem zl_star {i c r b t h : Int} {co ro br wc wr m : Int → Int} (hs : zl_sky t h co ro br wc wr m) : ∃ a t' co' ro' br' wc' wr' m', zf_X_star i c r b t co ro br wc wr = some (a, t', co', ro', br', wc', wr') ∧ zf_M_star i c r b m = some (a, m') ∧ zl_sky t' h co' ro' br' wc' wr' m' ∧ ∀ j, 126 < j → m' j = m j := by
  obtain ⟨⟨t1, t2, t3⟩, ⟨h1, h2, h3⟩, hr⟩ := id hs
  unfold zf_X_star zf_M_star
  rw [ze_X_isWithin, ze_M_in, zl_b, zl_b]
  by_cases q1 : zs_in i 0 23 = 0
  · rw [if_pos q1, if_pos q1]
    exact ⟨0, t, co, ro, br, wc, wr, m, rfl, rfl, hs, fun _ _ => rfl⟩
  rw [if_neg q1, if_neg q1, ze_X_isPlace, ze_M_isPlace, zl_b, zl_b]
  obtain ⟨i1, i2⟩ := zs_in_ne q1
  by_cases q2 : zs_pl c r = 0
  · rw [if_pos q2, if_pos q2]
    exact ⟨0, t, co, ro, br, wc, wr, m, rfl, rfl, hs, fun _ _ => rfl⟩
  rw [if_neg q2, if_neg q2, ze_X_isWithin, ze_M_in, zl_b, zl_b]
  obtain ⟨c1, c2, c3, c4⟩ := zs_pl_ne q2
  by_cases q3 : zs_in b 1 9 = 0
  · rw [if_pos q3, if_pos q3]
    exact ⟨0, t, co, ro, br, wc, wr, m, rfl, rfl, hs, fun _ _ => rfl⟩
  rw [if_neg q3, if_neg q3]
  obtain ⟨b1, b2⟩ := zs_in_ne q3
  rw [zi_w_id (x := 0 + i) (by omega) (by omega), zi_w_id (x := 24 + i) (by omega) (by omega), zi_w_id (x := 48 + i) (by omega) (by omega), zi_w_id (x := 72 + i) (by omega) (by omega), zi_w_id (x := 96 + i) (by omega) (by omega)]
  rw [zl_c (zi_ix_of (by omega) (by omega)), zl_c (zi_ix_of (by omega) (by omega)), zl_c (zi_ix_of (by omega) (by omega)), zl_c (zi_ix_of (by omega) (by omega)), zl_c (zi_ix_of (by omega) (by omega)), zl_c (zi_ix_of (by omega) (by omega))]
  obtain ⟨o1, o2⟩ := zl_or24 t1 t2 i1 (by omega : i < 24)
  refine ⟨1, _, _, _, _, _, _, _, rfl, rfl, ⟨⟨o1, o2, ?_⟩, ⟨h1, h2, ?_⟩, fun j j1 j2 => ?_⟩, fun j hj => ?_⟩
  · rw [zv_up_n (by omega), zv_up_n (by omega), zv_up_n (by omega), zv_up_n (by omega), zv_up_n (by omega), zv_up_s, t3]
  · rw [zv_up_n (by omega), zv_up_n (by omega), zv_up_n (by omega), zv_up_n (by omega), zv_up_n (by omega), zv_up_n (by omega)]; exact h3
  · have hj := hr j j1 j2
    unfold zv_up
    by_cases e : j = i
    · subst e
      refine ⟨⟨?_, ?_, ?_, ?_, ?_⟩, ?_⟩
      · rw [if_neg (by omega), if_neg (by omega), if_neg (by omega), if_neg (by omega), if_pos (by omega), if_pos rfl]
      · rw [if_neg (by omega), if_neg (by omega), if_neg (by omega), if_pos rfl, if_pos rfl]
      · rw [if_neg (by omega), if_neg (by omega), if_pos rfl, if_pos rfl]
      · rw [if_neg (by omega), if_pos rfl, if_pos rfl]
      · rw [if_pos rfl, if_pos rfl]
      · simp only [if_pos trivial]; omega
    · refine ⟨⟨?_, ?_, ?_, ?_, ?_⟩, ?_⟩
      · rw [if_neg (by omega), if_neg (by omega), if_neg (by omega), if_neg (by omega), if_neg (by omega), if_neg (by omega), if_neg e]; exact hj.1.1
      · rw [if_neg (by omega), if_neg (by omega), if_neg (by omega), if_neg (by omega), if_neg (by omega), if_neg (by omega), if_neg e]; exact hj.1.2.1
      · rw [if_neg (by omega), if_neg (by omega), if_neg (by omega), if_neg (by omega), if_neg (by omega), if_neg (by omega), if_neg e]; exact hj.1.2.2.1
      · rw [if_neg (by omega), if_neg (by omega), if_neg (by omega), if_neg (by omega), if_neg (by omega), if_neg (by omega), if_neg e]; exact hj.1.2.2.2.1
      · rw [if_neg (by omega), if_neg (by omega), if_neg (by omega), if_neg (by omega), if_neg (by omega), if_neg (by omega), if_neg e]; exact hj.1.2.2.2.2
      · simp only [if_neg e]; exact hj.2
  · rw [zv_up_n (by omega), zv_up_n (by omega), zv_up_n (by omega), zv_up_n (by omega), zv_up_n (by omega), zv_up_n (by omega)]
theorem zl_starIs {i k t h : Int} {co ro br wc wr m : Int → Int} (hs : zl_sky t h co ro br wc wr m) : ∃ a, zf_X_starIs i k t h co ro br wc wr = some a ∧ zf_M_starIs i k m = some a := by
  obtain ⟨⟨t1, t2, t3⟩, ⟨h1, h2, h3⟩, hr⟩ := hs
  unfold zf_X_starIs zf_M_starIs
  rw [ze_Sky_hasStar t1 (by omega), ze_M_isTold (by omega) (by omega), t3, zl_b, zl_b]
  by_cases q : zs_has 24 t i = 0
  · rw [if_pos q, if_pos q]; exact ⟨-1, rfl, rfl⟩
  rw [if_neg q, if_neg q]
  obtain ⟨i1, i2, -⟩ := zs_has_ne q
  obtain ⟨⟨a1, a2, a3, a4, a5⟩, b1, b2, b3, b4, b5, b6, b7, b8, b9, b10⟩ := hr i i1 i2
  rw [zi_w_id (x := 0 + i) (by omega) (by omega), zi_w_id (x := 24 + i) (by omega) (by omega), zi_w_id (x := 48 + i) (by omega) (by omega), zi_w_id (x := 72 + i) (by omega) (by omega), zi_w_id (x := 96 + i) (by omega) (by omega), show 0 + i = i by omega, a1, a2, a3, a4, a5]
  rw [ze_Sky_standing i1 i2 b1 b2 h1 h2, ze_M_standsAt i1 i2 (by omega) (by omega) (by omega) (by omega), a1, h3]
  rw [show zi_ix i 24 = true from zi_ix_of i1 (by omega), show zi_ix i 422 = true from zi_ix_of i1 (by omega), show zi_ix (24 + i) 422 = true from zi_ix_of (by omega) (by omega), show zi_ix (48 + i) 422 = true from zi_ix_of (by omega) (by omega), show zi_ix (72 + i) 422 = true from zi_ix_of (by omega) (by omega), show zi_ix (96 + i) 422 = true from zi_ix_of (by omega) (by omega)]
  repeat' split
  all_goals exact ⟨_, rfl, rfl⟩
end
section
/-! What gone and walk do, on both sides. -/
theorem zl_gone {i t h : Int} {co ro br wc wr m : Int → Int} (hs : zl_sky t h co ro br wc wr m) : ∃ a t' m', zf_X_gone i t = some (a, t') ∧ zf_M_gone i m = some (a, m') ∧ zl_sky t' h co ro br wc wr m' ∧ ∀ j, j ≠ 126 → m' j = m j := by
  obtain ⟨⟨t1, t2, t3⟩, ⟨h1, h2, h3⟩, hr⟩ := id hs
  unfold zf_X_gone zf_M_gone
  rw [ze_Sky_hasStar t1 (by omega), ze_M_isTold (by omega) (by omega), t3, zl_b, zl_b]
  by_cases q : zs_has 24 t i = 0
  · rw [if_pos q, if_pos q]
    exact ⟨0, t, m, rfl, rfl, hs, fun _ _ => rfl⟩
  rw [if_neg q, if_neg q]
  obtain ⟨i1, i2, -⟩ := zs_has_ne q
  obtain ⟨o1, o2, -⟩ := zi_clr t1 (by omega : t ≤ 2147483647) i1 (by omega : i < 31)
  refine ⟨1, _, _, rfl, rfl, ⟨⟨o1, by omega, zv_up_s⟩, ⟨h1, h2, ?_⟩, fun j j1 j2 => ?_⟩, fun j hj => zv_up_n hj⟩
  · rw [zv_up_n (by omega)]; exact h3
  · rw [zv_up_n (by omega), zv_up_n (by omega), zv_up_n (by omega), zv_up_n (by omega), zv_up_n (by omega)]
    exact hr j j1 j2
theorem zl_walk {i c r t h : Int} {co ro br wc wr m : Int → Int} (hs : zl_sky t h co ro br wc wr m) : ∃ a wc' wr' m', zf_X_walk i c r t wc wr = some (a, wc', wr') ∧ zf_M_walk i c r m = some (a, m') ∧ zl_sky t h co ro br wc' wr' m' ∧ ∀ j, 126 ≤ j → m' j = m j := by
  obtain ⟨⟨t1, t2, t3⟩, ⟨h1, h2, h3⟩, hr⟩ := id hs
  unfold zf_X_walk zf_M_walk
  rw [ze_Sky_hasStar t1 (by omega), ze_M_isTold (by omega) (by omega), t3, zl_b, zl_b]
  by_cases q : zs_has 24 t i = 0
  · rw [if_pos q, if_pos q]
    exact ⟨0, wc, wr, m, rfl, rfl, hs, fun _ _ => rfl⟩
  rw [if_neg q, if_neg q, ze_X_isWithin, ze_M_in, zl_b, zl_b]
  obtain ⟨i1, i2, -⟩ := zs_has_ne q
  by_cases q2 : zs_in c (-3) 3 = 0
  · rw [if_pos q2, if_pos q2]
    exact ⟨0, wc, wr, m, rfl, rfl, hs, fun _ _ => rfl⟩
  rw [if_neg q2, if_neg q2, ze_X_isWithin, ze_M_in, zl_b, zl_b]
  obtain ⟨c1, c2⟩ := zs_in_ne q2
  by_cases q3 : zs_in r (-3) 3 = 0
  · rw [if_pos q3, if_pos q3]
    exact ⟨0, wc, wr, m, rfl, rfl, hs, fun _ _ => rfl⟩
  rw [if_neg q3, if_neg q3]
  obtain ⟨r1, r2⟩ := zs_in_ne q3
  rw [zi_w_id (x := 72 + i) (by omega) (by omega), zi_w_id (x := 96 + i) (by omega) (by omega), zl_c (zi_ix_of (by omega) (by omega)), zl_c (zi_ix_of (by omega) (by omega)), zl_c (zi_ix_of (by omega) (by omega))]
  refine ⟨1, _, _, _, rfl, rfl, ⟨⟨t1, t2, ?_⟩, ⟨h1, h2, ?_⟩, fun j j1 j2 => ?_⟩, fun j hj => ?_⟩
  · rw [zv_up_n (by omega), zv_up_n (by omega)]; exact t3
  · rw [zv_up_n (by omega), zv_up_n (by omega)]; exact h3
  · have hj := hr j j1 j2
    rw [zv_up_n (i := j) (by omega), zv_up_n (i := j) (by omega), zv_up_n (i := 24 + j) (by omega), zv_up_n (i := 24 + j) (by omega), zv_up_n (i := 48 + j) (by omega), zv_up_n (i := 48 + j) (by omega)]
    refine ⟨⟨hj.1.1, hj.1.2.1, hj.1.2.2.1, ?_, ?_⟩, ?_⟩
    · unfold zv_up
      by_cases e : j = i
      · subst e; rw [if_neg (by omega), if_pos rfl, if_pos rfl]
      · rw [if_neg (by omega), if_neg (by omega), if_neg e]; exact hj.1.2.2.2.1
    · unfold zv_up
      by_cases e : j = i
      · subst e; rw [if_pos rfl, if_pos rfl]
      · rw [if_neg (by omega), if_neg (by omega), if_neg e]; exact hj.1.2.2.2.2
    · unfold zv_up
      by_cases e : j = i
      · simp only [if_pos e]; omega
      · simp only [if_neg e]; exact hj.2
  · rw [zv_up_n (by omega), zv_up_n (by omega)]
end
section
/-! What hour, clouds, sight and seed do, on both sides. -/
theorem zl_set1 {n lo hi v k : Int} {m : Int → Int} : ∃ a v' m', ((some (zs_in n lo hi)).bind fun r1 => if r1 = 0 then some ((0 : Int), v) else some (1, n)) = some (a, v') ∧ ((some (zs_in n lo hi)).bind fun r1 => if r1 = 0 then some ((0 : Int), m) else some (1, zv_up m k n)) = some (a, m') ∧ (m k = v → m' k = v') ∧ (∀ j, j ≠ k → m' j = m j) ∧ (v' = v ∨ (v' = n ∧ lo ≤ n ∧ n ≤ hi)) := by
  rw [zl_b, zl_b]
  by_cases q : zs_in n lo hi = 0
  · rw [if_pos q, if_pos q]
    exact ⟨0, v, m, rfl, rfl, fun h => h, fun _ _ => rfl, Or.inl rfl⟩
  · rw [if_neg q, if_neg q]
    exact ⟨1, n, _, rfl, rfl, fun _ => zv_up_s, fun j hj => zv_up_n hj, Or.inr ⟨rfl, zs_in_ne q⟩⟩
theorem zl_hour {n v : Int} {m : Int → Int} : ∃ a v' m', zf_X_hour n v = some (a, v') ∧ zf_M_hour n m = some (a, m') ∧ (m 128 = v → m' 128 = v') ∧ (∀ j, j ≠ 128 → m' j = m j) ∧ (v' = v ∨ (v' = n ∧ 0 ≤ n ∧ n ≤ 23)) := by
  unfold zf_X_hour zf_M_hour
  rw [ze_X_isWithin, ze_M_in]
  exact zl_set1
theorem zl_clouds {n v : Int} {m : Int → Int} : ∃ a v' m', zf_X_clouds n v = some (a, v') ∧ zf_M_clouds n m = some (a, m') ∧ (m 130 = v → m' 130 = v') ∧ (∀ j, j ≠ 130 → m' j = m j) ∧ (v' = v ∨ (v' = n ∧ 0 ≤ n ∧ n ≤ 16777215)) := by
  unfold zf_X_clouds zf_M_clouds
  rw [ze_X_isWithin, ze_M_in]
  exact zl_set1
theorem zl_seed {n v : Int} {m : Int → Int} : ∃ a v' m', zf_X_seed n v = some (a, v') ∧ zf_M_seed n m = some (a, m') ∧ (m 133 = v → m' 133 = v') ∧ (∀ j, j ≠ 133 → m' j = m j) ∧ (v' = v ∨ (v' = n ∧ 0 ≤ n ∧ n ≤ 65535)) := by
  unfold zf_X_seed zf_M_seed
  rw [ze_X_isWithin, ze_M_in]
  exact zl_set1
theorem zl_sight {n k v w : Int} {m : Int → Int} : ∃ a v' w' m', zf_X_sight n k v w = some (a, v', w') ∧ zf_M_sight n k m = some (a, m') ∧ (m 131 = v → m 132 = w → m' 131 = v' ∧ m' 132 = w') ∧ (∀ j, j ≠ 131 → j ≠ 132 → m' j = m j) ∧ ((v' = v ∧ w' = w) ∨ (v' = n ∧ w' = k ∧ 0 ≤ n ∧ n ≤ 11 ∧ 0 ≤ k ∧ k ≤ 11)) := by
  unfold zf_X_sight zf_M_sight
  rw [ze_X_isWithin, ze_M_in, zl_b, zl_b]
  by_cases q : zs_in n 0 11 = 0
  · rw [if_pos q, if_pos q]
    exact ⟨0, v, w, m, rfl, rfl, fun a b => ⟨a, b⟩, fun _ _ _ => rfl, Or.inl ⟨rfl, rfl⟩⟩
  rw [if_neg q, if_neg q, ze_X_isWithin, ze_M_in, zl_b, zl_b]
  obtain ⟨a1, a2⟩ := zs_in_ne q
  by_cases q2 : zs_in k 0 11 = 0
  · rw [if_pos q2, if_pos q2]
    exact ⟨0, v, w, m, rfl, rfl, fun a b => ⟨a, b⟩, fun _ _ _ => rfl, Or.inl ⟨rfl, rfl⟩⟩
  rw [if_neg q2, if_neg q2]
  obtain ⟨b1, b2⟩ := zs_in_ne q2
  exact ⟨1, n, k, _, rfl, rfl, fun _ _ => ⟨by rw [zv_up_n (by omega), zv_up_s], zv_up_s⟩, fun j h1 h2 => by rw [zv_up_n h2, zv_up_n h1], Or.inr ⟨rfl, rfl, a1, a2, b1, b2⟩⟩
end
section
/-! The machines that run a law, step by step, on both sides: what a run of steps leaves. -/
theorem zl_ci {α : Type} {a : Int} {n : Nat} {x : Option α} (h1 : 0 ≤ a) (h2 : a < n) : cond (zi_ix a n) x none = x := zl_c (zi_ix_of h1 h2)
theorem zl_cn {α : Type} {a : Int} {x : Option α} (h : a ≠ 0) : cond (zi_ne a) x none = x := zl_c (zi_ne_of h)
/-- what two numbers come to, by the class's kinds -/
def zd_bin (k x y : Int) : Int := if k = 5 then zi_w (x + y) else if k = 6 then zi_w (x - y) else if k = 7 then zi_w (x * y) else if k = 8 then zi_div x y else if k = 9 then zi_rem x y else if k = 10 then (if x < y then 1 else 0) else if k = 11 then (if y < x then 1 else 0) else (if x = y then 1 else 0)
section ZXRUN
variable {en f0 a t : Int} {K V lt S : Int → Int} {n : Nat}
theorem zx_end (h : en ≤ a) : zf_Law_run_l0 en f0 K V lt (n + 1) t a S = some (.inl (t, S)) := by
  show zf_Law_run_l0_b en f0 K V lt (zf_Law_run_l0 en f0 K V lt n) t a S = _
  unfold zf_Law_run_l0_b
  rw [if_neg (by omega)]
theorem zx_num (ha : 0 ≤ a) (hb : a < en) (he : en ≤ 200) (hK : K a = 0) (t1 : -1 ≤ t) (t2 : t + 1 < 40) : zf_Law_run_l0 en f0 K V lt (n + 1) t a S = zf_Law_run_l0 en f0 K V lt n (t + 1) (a + 1) (zv_up S (t + 1) (V a)) := by
  show zf_Law_run_l0_b en f0 K V lt (zf_Law_run_l0 en f0 K V lt n) t a S = _
  unfold zf_Law_run_l0_b
  rw [if_pos hb, zl_ci ha (by omega), if_neg (by omega), zi_w_id (x := t + 1) (by omega) (by omega), zi_w_id (x := a + 1) (by omega) (by omega), if_pos t2, if_pos hK, zl_ci (by omega) (by omega)]
theorem zx_let (ha : 0 ≤ a) (hb : a < en) (he : en ≤ 200) (hK : K a = 1) (v1 : 0 ≤ V a) (v2 : V a < 13) (t1 : -1 ≤ t) (t2 : t + 1 < 40) : zf_Law_run_l0 en f0 K V lt (n + 1) t a S = zf_Law_run_l0 en f0 K V lt n (t + 1) (a + 1) (zv_up S (t + 1) (lt (V a))) := by
  show zf_Law_run_l0_b en f0 K V lt (zf_Law_run_l0 en f0 K V lt n) t a S = _
  unfold zf_Law_run_l0_b
  rw [if_pos hb, zl_ci ha (by omega), if_neg (by omega), zi_w_id (x := t + 1) (by omega) (by omega), zi_w_id (x := a + 1) (by omega) (by omega), if_pos t2, if_neg (by omega), zl_ci v1 (by omega), zl_ci (by omega) (by omega)]
theorem zx_not (ha : 0 ≤ a) (hb : a < en) (he : en ≤ 200) (hK : K a = 2) (t1 : 0 ≤ t) (t2 : t < 40) : zf_Law_run_l0 en f0 K V lt (n + 1) t a S = zf_Law_run_l0 en f0 K V lt n t (a + 1) (zv_up S t (if S t = 0 then 1 else 0)) := by
  show zf_Law_run_l0_b en f0 K V lt (zf_Law_run_l0 en f0 K V lt n) t a S = _
  unfold zf_Law_run_l0_b
  rw [if_pos hb, zl_ci ha (by omega), if_pos (by omega), if_pos (by omega), if_neg (by omega), zl_ci t1 (by omega), if_pos hK, zi_w_id (x := a + 1) (by omega) (by omega)]
  by_cases h : S t = 0
  · rw [if_pos h, if_pos h]
  · rw [if_neg h, if_neg h]
theorem zx_jmp (ha : 0 ≤ a) (hb : a < en) (he : en ≤ 200) (hK : K a = 3 ∧ S t ≠ 0 ∨ K a = 4 ∧ S t = 0) (t1 : 0 ≤ t) (t2 : t < 40) (v1 : a < V a) (v2 : V a ≤ 200) : zf_Law_run_l0 en f0 K V lt (n + 1) t a S = zf_Law_run_l0 en f0 K V lt n t (V a) S := by
  show zf_Law_run_l0_b en f0 K V lt (zf_Law_run_l0 en f0 K V lt n) t a S = _
  unfold zf_Law_run_l0_b
  rw [if_pos hb, zl_ci ha (by omega), if_pos (by omega), if_pos (by omega), if_neg (by omega), zl_ci t1 (by omega), if_neg (by omega), zi_w_id (x := V a - 1) (by omega) (by omega), ze_Math_max, zl_b]
  have e : zi_w ((if a < V a - 1 then V a - 1 else a) + 1) = V a := by
    rw [zi_w_id (by split <;> omega) (by split <;> omega)]
    split <;> omega
  rw [e]
  rcases hK with ⟨h1, h2⟩ | ⟨h1, h2⟩
  · rw [if_neg h2, if_pos h1]
  · rw [if_pos h2, if_neg (by omega)]
theorem zx_thr (ha : 0 ≤ a) (hb : a < en) (he : en ≤ 200) (hK : K a = 3 ∧ S t = 0 ∨ K a = 4 ∧ S t ≠ 0) (t1 : 0 ≤ t) (t2 : t < 40) : zf_Law_run_l0 en f0 K V lt (n + 1) t a S = zf_Law_run_l0 en f0 K V lt n (t - 1) (a + 1) S := by
  show zf_Law_run_l0_b en f0 K V lt (zf_Law_run_l0 en f0 K V lt n) t a S = _
  unfold zf_Law_run_l0_b
  rw [if_pos hb, zl_ci ha (by omega), if_pos (by omega), if_pos (by omega), if_neg (by omega), zl_ci t1 (by omega), if_neg (by omega), zi_w_id (x := t + -1) (by omega) (by omega), zi_w_id (x := a + 1) (by omega) (by omega), show t + -1 = t - 1 by omega]
  rcases hK with ⟨h1, h2⟩ | ⟨h1, h2⟩
  · rw [if_pos h2, if_pos h1]
  · rw [if_neg h2, if_neg (by omega)]
theorem zx_bad (ha : 0 ≤ a) (hb : a < en) (he : en ≤ 200) (hK : K a = 8 ∨ K a = 9) (hS : S t = 0) (t1 : 1 ≤ t) (t2 : t < 40) : zf_Law_run_l0 en f0 K V lt (n + 1) t a S = some (.inr (0, f0, S)) := by
  show zf_Law_run_l0_b en f0 K V lt (zf_Law_run_l0 en f0 K V lt n) t a S = _
  unfold zf_Law_run_l0_b
  rw [if_pos hb, zl_ci ha (by omega), if_pos (by omega), if_neg (by omega), if_neg (by omega), zl_ci (a := t) (by omega) (by omega), if_pos hS]
  rcases hK with h | h
  · rw [if_pos h]
  · rw [if_neg (by omega), if_pos h]
theorem zx_bin (ha : 0 ≤ a) (hb : a < en) (he : en ≤ 200) (k1 : 5 ≤ K a) (k2 : K a ≤ 12) (hS : S t = 0 → K a ≠ 8 ∧ K a ≠ 9) (t1 : 1 ≤ t) (t2 : t < 40) : zf_Law_run_l0 en f0 K V lt (n + 1) t a S = zf_Law_run_l0 en f0 K V lt n (t - 1) (a + 1) (zv_up S (t - 1) (zd_bin (K a) (S (t - 1)) (S t))) := by
  show zf_Law_run_l0_b en f0 K V lt (zf_Law_run_l0 en f0 K V lt n) t a S = _
  unfold zf_Law_run_l0_b zd_bin
  rw [if_pos hb, zl_ci ha (by omega), if_pos (by omega), if_neg (by omega), if_neg (by omega), zl_ci (a := t) (by omega) (by omega), zi_w_id (x := t + -1) (by omega) (by omega), zi_w_id (x := a + 1) (by omega) (by omega), show t + -1 = t - 1 by omega, zl_ci (a := t - 1) (by omega) (by omega), zl_ci (a := t - 1) (by omega) (by omega)]
  have hc : K a = 5 ∨ K a = 6 ∨ K a = 7 ∨ K a = 8 ∨ K a = 9 ∨ K a = 10 ∨ K a = 11 ∨ K a = 12 := by omega
  by_cases h0 : S t = 0
  · obtain ⟨n8, n9⟩ := hS h0
    rw [if_pos h0, if_neg n8, if_neg n9]
    rcases hc with h | h | h | h | h | h | h | h
    · rw [if_pos h, if_pos h]
    · rw [if_neg (by omega), if_pos h, if_neg (by omega), if_pos h]
    · rw [if_neg (by omega), if_neg (by omega), if_pos h, if_neg (by omega), if_neg (by omega), if_pos h]
    · exact absurd h n8
    · exact absurd h n9
    · rw [if_neg (show ¬ K a = 5 by omega), if_neg (show ¬ K a = 6 by omega), if_neg (show ¬ K a = 7 by omega), if_pos h, if_neg (show ¬ K a = 5 by omega), if_neg (show ¬ K a = 6 by omega), if_neg (show ¬ K a = 7 by omega), if_neg n8, if_neg n9, if_pos h]
      split <;> rfl
    · rw [if_neg (show ¬ K a = 5 by omega), if_neg (show ¬ K a = 6 by omega), if_neg (show ¬ K a = 7 by omega), if_neg (show ¬ K a = 10 by omega), if_pos h, if_neg (show ¬ K a = 5 by omega), if_neg (show ¬ K a = 6 by omega), if_neg (show ¬ K a = 7 by omega), if_neg n8, if_neg n9, if_neg (show ¬ K a = 10 by omega), if_pos h]
      split <;> rfl
    · rw [if_neg (show ¬ K a = 5 by omega), if_neg (show ¬ K a = 6 by omega), if_neg (show ¬ K a = 7 by omega), if_neg (show ¬ K a = 10 by omega), if_neg (show ¬ K a = 11 by omega), if_neg (show ¬ K a = 5 by omega), if_neg (show ¬ K a = 6 by omega), if_neg (show ¬ K a = 7 by omega), if_neg n8, if_neg n9, if_neg (show ¬ K a = 10 by omega), if_neg (show ¬ K a = 11 by omega)]
      split <;> rfl
  · rw [if_neg h0, zl_cn h0, zl_cn h0]
    (repeat' split) <;> first | rfl | (exfalso; omega)
end ZXRUN
/-- the reference's kinds -/
def zd_op (k : Int) : Int := if k = 0 then 0 else if k = 1 then 1 else if k = 2 then 10 else if k = 3 then 12 else if k = 4 then 11 else k - 3
theorem zd_cd {k v c : Int} (e : c = 1048576 * zd_op k + v) (k1 : 0 ≤ k) (k2 : k ≤ 12) (v1 : 0 ≤ v) (v2 : v < 1048576) : zi_div c 1048576 = zd_op k ∧ zi_rem c 1048576 = v := by
  have o1 : 0 ≤ zd_op k ∧ zd_op k ≤ 12 := by unfold zd_op; (repeat' split) <;> omega
  rw [zi_div_eq (by omega) (by omega) (by decide) (by decide), zi_rem_eq (by omega) (by omega) (by decide) (by decide)]
  constructor <;> omega
theorem zd_reckon {k x y : Int} (k1 : 5 ≤ k) (k2 : k ≤ 12) (h : y = 0 → k ≠ 8 ∧ k ≠ 9) : zf_M_reckon (k - 3) x y = some (zd_bin k x y) := by
  have hc : k = 5 ∨ k = 6 ∨ k = 7 ∨ k = 8 ∨ k = 9 ∨ k = 10 ∨ k = 11 ∨ k = 12 := by omega
  unfold zf_M_reckon zd_bin
  rcases hc with h | h | h | h | h | h | h | h <;> subst h
  · rfl
  · rfl
  · rfl
  · rw [zl_cn (fun h0 => (h h0).1 rfl)]; rfl
  · rw [zl_cn (fun h0 => (h h0).2 rfl), zl_cn (fun h0 => (h h0).2 rfl)]; rfl
  · show (if x < y then some 1 else some 0) = some (if x < y then 1 else 0)
    split <;> rfl
  · show (if y < x then some 1 else some 0) = some (if y < x then 1 else 0)
    split <;> rfl
  · show (if x = y then some 1 else some 0) = some (if x = y then 1 else 0)
    split <;> rfl
section ZMRUN
variable {en a t k v : Int} {C lt S : Int → Int} {n : Nat}
theorem zm_end (h : en ≤ a) : zf_M_comesTo_l0 en 0 C lt (n + 1) t a S = some (.inl S) := by
  show zf_M_comesTo_l0_b en 0 C lt (zf_M_comesTo_l0 en 0 C lt n) t a S = _
  unfold zf_M_comesTo_l0_b
  rw [if_neg (by omega)]
theorem zm_num (ha : 0 ≤ a) (hb : a < en) (he : en ≤ 200) (hC : C a = 1048576 * zd_op 0 + v) (v1 : 0 ≤ v) (v2 : v < 1048576) (t1 : 0 ≤ t) (t2 : t < 40) : zf_M_comesTo_l0 en 0 C lt (n + 1) t a S = zf_M_comesTo_l0 en 0 C lt n (t + 1) (a + 1) (zv_up S t v) := by
  show zf_M_comesTo_l0_b en 0 C lt (zf_M_comesTo_l0 en 0 C lt n) t a S = _
  unfold zf_M_comesTo_l0_b
  obtain ⟨e1, e2⟩ := zd_cd hC (by decide) (by decide) v1 v2
  rw [if_pos hb, zl_ci ha (by omega), e1, e2, if_pos (by decide), zl_ci t1 (by omega), zi_w_id (x := t + 1) (by omega) (by omega), zi_w_id (x := a + 1) (by omega) (by omega)]
theorem zm_let (ha : 0 ≤ a) (hb : a < en) (he : en ≤ 200) (hC : C a = 1048576 * zd_op 1 + v) (v1 : 0 ≤ v) (v2 : v < 13) (t1 : 0 ≤ t) (t2 : t < 40) : zf_M_comesTo_l0 en 0 C lt (n + 1) t a S = zf_M_comesTo_l0 en 0 C lt n (t + 1) (a + 1) (zv_up S t (lt v)) := by
  show zf_M_comesTo_l0_b en 0 C lt (zf_M_comesTo_l0 en 0 C lt n) t a S = _
  unfold zf_M_comesTo_l0_b
  obtain ⟨e1, e2⟩ := zd_cd hC (by decide) (by decide) v1 (by omega)
  rw [if_pos hb, zl_ci ha (by omega), e1, e2, if_neg (by decide), if_pos (by decide), zl_ci v1 (by omega), zl_ci t1 (by omega), zi_w_id (x := t + 1) (by omega) (by omega), zi_w_id (x := a + 1) (by omega) (by omega)]
theorem zm_not (ha : 0 ≤ a) (hb : a < en) (he : en ≤ 200) (hC : C a = 1048576 * zd_op 2 + v) (v1 : 0 ≤ v) (v2 : v < 1048576) (hS : S (t - 1) = 0 ∨ S (t - 1) = 1) (t1 : 1 ≤ t) (t2 : t ≤ 40) : zf_M_comesTo_l0 en 0 C lt (n + 1) t a S = zf_M_comesTo_l0 en 0 C lt n t (a + 1) (zv_up S (t - 1) (if S (t - 1) = 0 then 1 else 0)) := by
  show zf_M_comesTo_l0_b en 0 C lt (zf_M_comesTo_l0 en 0 C lt n) t a S = _
  unfold zf_M_comesTo_l0_b
  obtain ⟨e1, e2⟩ := zd_cd hC (by decide) (by decide) v1 v2
  rw [if_pos hb, zl_ci ha (by omega), e1, if_neg (by decide), if_neg (by decide), if_pos (by decide), zi_w_id (x := t - 1) (by omega) (by omega), zl_ci (a := t - 1) (by omega) (by omega), zi_w_id (x := a + 1) (by omega) (by omega)]
  rcases hS with h | h <;> rw [h] <;> rfl
theorem zm_jmp (ha : 0 ≤ a) (hb : a < en) (he : en ≤ 200) (hC : C a = 1048576 * zd_op k + v) (hK : k = 3 ∧ S (t - 1) = 1 ∨ k = 4 ∧ S (t - 1) = 0) (v1 : 0 ≤ v) (v2 : v < 1048576) (t1 : 1 ≤ t) (t2 : t ≤ 40) : zf_M_comesTo_l0 en 0 C lt (n + 1) t a S = zf_M_comesTo_l0 en 0 C lt n t v S := by
  show zf_M_comesTo_l0_b en 0 C lt (zf_M_comesTo_l0 en 0 C lt n) t a S = _
  unfold zf_M_comesTo_l0_b
  obtain ⟨e1, e2⟩ := zd_cd hC (by omega) (by omega) v1 v2
  rw [if_pos hb, zl_ci ha (by omega), e1, e2, zi_w_id (x := t - 1) (by omega) (by omega), zi_w_id (x := 0 + v) (by omega) (by omega), Int.zero_add, zl_ci (a := t - 1) (by omega) (by omega), zl_ci (a := t - 1) (by omega) (by omega)]
  rcases hK with ⟨rfl, h⟩ | ⟨rfl, h⟩
  · rw [if_neg (by decide), if_neg (by decide), if_neg (by decide), if_neg (by decide), if_pos (by decide), zl_ci (a := t - 1) (by omega) (by omega), if_pos h]
  · rw [if_neg (by decide), if_neg (by decide), if_neg (by decide), if_pos (by decide), if_pos h]
theorem zm_thr (ha : 0 ≤ a) (hb : a < en) (he : en ≤ 200) (hC : C a = 1048576 * zd_op k + v) (hK : k = 3 ∧ S (t - 1) = 0 ∨ k = 4 ∧ S (t - 1) = 1) (v1 : 0 ≤ v) (v2 : v < 1048576) (t1 : 1 ≤ t) (t2 : t ≤ 40) : zf_M_comesTo_l0 en 0 C lt (n + 1) t a S = zf_M_comesTo_l0 en 0 C lt n (t - 1) (a + 1) S := by
  show zf_M_comesTo_l0_b en 0 C lt (zf_M_comesTo_l0 en 0 C lt n) t a S = _
  unfold zf_M_comesTo_l0_b
  obtain ⟨e1, e2⟩ := zd_cd hC (by omega) (by omega) v1 v2
  rw [if_pos hb, zl_ci ha (by omega), e1, zi_w_id (x := t - 1) (by omega) (by omega), zi_w_id (x := a + 1) (by omega) (by omega), zl_ci (a := t - 1) (by omega) (by omega), zl_ci (a := t - 1) (by omega) (by omega)]
  rcases hK with ⟨rfl, h⟩ | ⟨rfl, h⟩
  · rw [if_neg (by decide), if_neg (by decide), if_neg (by decide), if_neg (by decide), if_pos (by decide), zl_ci (a := t - 1) (by omega) (by omega), if_neg (by omega)]
  · rw [if_neg (by decide), if_neg (by decide), if_neg (by decide), if_pos (by decide), if_neg (by omega)]
theorem zm_bad (ha : 0 ≤ a) (hb : a < en) (he : en ≤ 200) (hC : C a = 1048576 * zd_op k + v) (hK : k = 8 ∨ k = 9) (hS : S (t - 1) = 0) (v1 : 0 ≤ v) (v2 : v < 1048576) (t1 : 2 ≤ t) (t2 : t ≤ 40) : zf_M_comesTo_l0 en 0 C lt (n + 1) t a S = some (.inr (0, S)) := by
  show zf_M_comesTo_l0_b en 0 C lt (zf_M_comesTo_l0 en 0 C lt n) t a S = _
  unfold zf_M_comesTo_l0_b
  obtain ⟨e1, e2⟩ := zd_cd hC (by omega) (by omega) v1 v2
  rw [if_pos hb, zl_ci ha (by omega), e1, zi_w_id (x := t - 1) (by omega) (by omega)]
  rcases hK with rfl | rfl
  · rw [if_neg (by decide), if_neg (by decide), if_neg (by decide), if_neg (by decide), if_neg (by decide), if_pos (by decide), zl_ci (a := t - 1) (by omega) (by omega), if_pos hS]
  · rw [if_neg (by decide), if_neg (by decide), if_neg (by decide), if_neg (by decide), if_neg (by decide), if_neg (by decide), if_pos (by decide), zl_ci (a := t - 1) (by omega) (by omega), if_pos hS]
theorem zm_bin (ha : 0 ≤ a) (hb : a < en) (he : en ≤ 200) (hC : C a = 1048576 * zd_op k + v) (k1 : 5 ≤ k) (k2 : k ≤ 12) (hS : S (t - 1) = 0 → k ≠ 8 ∧ k ≠ 9) (v1 : 0 ≤ v) (v2 : v < 1048576) (t1 : 2 ≤ t) (t2 : t ≤ 40) : zf_M_comesTo_l0 en 0 C lt (n + 1) t a S = zf_M_comesTo_l0 en 0 C lt n (t - 1) (a + 1) (zv_up S (t - 2) (zd_bin k (S (t - 2)) (S (t - 1)))) := by
  show zf_M_comesTo_l0_b en 0 C lt (zf_M_comesTo_l0 en 0 C lt n) t a S = _
  unfold zf_M_comesTo_l0_b
  obtain ⟨e1, e2⟩ := zd_cd hC (by omega) (by omega) v1 v2
  have eo : zd_op k = k - 3 := by unfold zd_op; rw [if_neg (by omega), if_neg (by omega), if_neg (by omega), if_neg (by omega), if_neg (by omega)]
  rw [if_pos hb, zl_ci ha (by omega), e1, zi_w_id (x := t - 1) (by omega) (by omega), zi_w_id (x := t - 1 - 1) (by omega) (by omega), zi_w_id (x := a + 1) (by omega) (by omega), show t - 1 - 1 = t - 2 by omega, eo, zd_reckon k1 k2 hS, zl_b]
  rw [if_neg (by omega), if_neg (by omega), if_neg (by omega), if_neg (by omega), if_neg (by omega)]
  by_cases h8 : k - 3 = 5
  · rw [if_pos h8, zl_ci (a := t - 1) (by omega) (by omega), if_neg (fun h => (hS h).1 (by omega)), zl_ci (a := t - 2) (by omega) (by omega)]
  · rw [if_neg h8]
    by_cases h9 : k - 3 = 6
    · rw [if_pos h9, zl_ci (a := t - 1) (by omega) (by omega), if_neg (fun h => (hS h).2 (by omega)), zl_ci (a := t - 2) (by omega) (by omega)]
    · rw [if_neg h9, zl_ci (a := t - 2) (by omega) (by omega), zl_ci (a := t - 1) (by omega) (by omega)]
end ZMRUN
end
section
/-! What a run of steps of a law comes to: for both machines at once, made up of its pieces. -/
theorem zl_ns {α : Type} {v : α} {P : Prop} (h : (none : Option α) = some v) : P := by cases h
theorem zl_sn {α : Type} {v : α} {P : Prop} (h : some v = (none : Option α)) : P := by cases h
/-- what a run of steps leaves at a height: a value, and what lies below as it was; or it is refused -/
def zd_eff {α : Type} (h : Int) (S : Int → Int) (r : Option Int) (A : Nat → Option α) (B : Nat → (Int → Int) → Option α) (bad : (Int → Int) → α) (len : Nat) : Prop :=
  ∃ (k : Nat) (S' : Int → Int), k ≤ len ∧ (∀ j, j < h → S' j = S j) ∧ (r = none → ∀ n, A (n + k + 1) = some (bad S')) ∧ ∀ v, r = some v → S' h = v ∧ ∀ n, A (n + k) = B n S'
theorem zd_leaf {α : Type} {h : Int} {S : Int → Int} {A : Nat → Option α} {B : Nat → (Int → Int) → Option α} {bad : (Int → Int) → α} {v : Int} (hA : ∀ n, A (n + 1) = B n (zv_up S h v)) : zd_eff h S (some v) A B bad 1 :=
  ⟨1, zv_up S h v, Nat.le_refl _, fun j hj => zv_up_n (by omega), fun hn => zl_sn hn, fun w hw => by
    cases hw
    exact ⟨zv_up_s, hA⟩⟩
theorem zd_two {α : Type} {h : Int} {S : Int → Int} {r1 r2 : Option Int} {opr : Int → Int → Option Int} {A : Nat → Option α} {B C D : Nat → (Int → Int) → Option α} {bad : (Int → Int) → α} {l1 l2 : Nat}
    (e1 : zd_eff h S r1 A B bad l1) (e2 : ∀ S1, zd_eff (h + 1) S1 r2 (fun n => B n S1) C bad l2)
    (hop : ∀ S2 x y, r1 = some x → r2 = some y → S2 h = x → S2 (h + 1) = y → (opr x y = none → ∀ n, C (n + 1) S2 = some (bad S2)) ∧ ∀ z, opr x y = some z → ∀ n, C (n + 1) S2 = D n (zv_up S2 h z)) :
    zd_eff h S (r1.bind fun x => r2.bind fun y => opr x y) A D bad (l1 + l2 + 1) := by
  obtain ⟨k1, S1, b1, f1, n1, s1⟩ := e1
  cases hr1 : r1 with
  | none => exact ⟨k1, S1, by omega, f1, fun _ => n1 hr1, fun v hv => zl_ns hv⟩
  | some x =>
    obtain ⟨v1, s1⟩ := s1 x hr1
    obtain ⟨k2, S2, b2, f2, n2, s2⟩ := e2 S1
    have low : ∀ j, j < h → S2 j = S j := fun j hj => (f2 j (by omega)).trans (f1 j hj)
    cases hr2 : r2 with
    | none =>
      refine ⟨k1 + k2, S2, by omega, low, fun _ n => ?_, fun v hv => zl_ns hv⟩
      rw [show n + (k1 + k2) + 1 = (n + k2 + 1) + k1 by omega, s1]
      exact n2 hr2 n
    | some y =>
      obtain ⟨v2, s2⟩ := s2 y hr2
      obtain ⟨o1, o2⟩ := hop S2 x y hr1 hr2 ((f2 h (by omega)).trans v1) v2
      cases ho : opr x y with
      | none =>
        refine ⟨k1 + k2, S2, by omega, low, fun _ n => ?_, fun v hv => ?_⟩
        · rw [show n + (k1 + k2) + 1 = ((n + 1) + k2) + k1 by omega, s1]
          exact (s2 (n + 1)).trans (o1 ho n)
        · have hv : opr x y = some v := hv
          rw [ho] at hv
          exact zl_ns hv
      | some z =>
        refine ⟨k1 + k2 + 1, zv_up S2 h z, by omega, fun j hj => by rw [zv_up_n (by omega)]; exact low j hj, fun hn => ?_, fun v hv => ?_⟩
        · have hn : opr x y = none := hn
          rw [ho] at hn
          exact zl_sn hn
        · have hv : opr x y = some v := hv
          rw [ho] at hv
          cases hv
          refine ⟨zv_up_s, fun n => ?_⟩
          rw [show n + (k1 + k2 + 1) = ((n + 1) + k2) + k1 by omega, s1]
          exact (s2 (n + 1)).trans (o2 z ho n)
theorem zd_map {α : Type} {h : Int} {S : Int → Int} {r1 : Option Int} {f : Int → Int} {A : Nat → Option α} {B D : Nat → (Int → Int) → Option α} {bad : (Int → Int) → α} {l1 : Nat}
    (e1 : zd_eff h S r1 A B bad l1) (hm : ∀ S1 x, r1 = some x → S1 h = x → ∀ n, B (n + 1) S1 = D n (zv_up S1 h (f x))) : zd_eff h S (r1.map f) A D bad (l1 + 1) := by
  obtain ⟨k1, S1, b1, f1, n1, s1⟩ := e1
  cases hr1 : r1 with
  | none => exact ⟨k1, S1, by omega, f1, fun _ => n1 hr1, fun v hv => zl_ns hv⟩
  | some x =>
    obtain ⟨v1, s1⟩ := s1 x hr1
    refine ⟨k1 + 1, zv_up S1 h (f x), by omega, fun j hj => by rw [zv_up_n (by omega)]; exact f1 j hj, fun hn => zl_sn hn, fun v hv => ?_⟩
    have hv : some (f x) = some v := hv
    cases hv
    refine ⟨zv_up_s, fun n => ?_⟩
    rw [show n + (k1 + 1) = (n + 1) + k1 by omega, s1]
    exact hm S1 x hr1 v1 n
theorem zd_jump {α : Type} {h : Int} {S : Int → Int} {r1 r2 : Option Int} {tk : Int → Bool} {A : Nat → Option α} {B B2 D : Nat → (Int → Int) → Option α} {bad : (Int → Int) → α} {l1 l2 : Nat}
    (e1 : zd_eff h S r1 A B bad l1)
    (ht : ∀ S1 x, r1 = some x → S1 h = x → tk x = true → ∀ n, B (n + 1) S1 = D n S1)
    (hf : ∀ S1 x, r1 = some x → S1 h = x → tk x = false → ∀ n, B (n + 1) S1 = B2 n S1)
    (e2 : ∀ S1, zd_eff h S1 r2 (fun n => B2 n S1) D bad l2) :
    zd_eff h S (r1.bind fun x => if tk x = true then some x else r2) A D bad (l1 + l2 + 1) := by
  obtain ⟨k1, S1, b1, f1, n1, s1⟩ := e1
  cases hr1 : r1 with
  | none => exact ⟨k1, S1, by omega, f1, fun _ => n1 hr1, fun v hv => zl_ns hv⟩
  | some x =>
    obtain ⟨v1, s1⟩ := s1 x hr1
    cases hk : tk x with
    | true =>
      have e : ((some x).bind fun x => if tk x = true then some x else r2) = some x := by
        show (if tk x = true then some x else r2) = some x
        rw [if_pos hk]
      rw [e]
      refine ⟨k1 + 1, S1, by omega, f1, fun hn => zl_sn hn, fun v hv => ?_⟩
      cases hv
      refine ⟨v1, fun n => ?_⟩
      rw [show n + (k1 + 1) = (n + 1) + k1 by omega, s1]
      exact ht S1 x hr1 v1 hk n
    | false =>
      have e : ((some x).bind fun x => if tk x = true then some x else r2) = r2 := by
        show (if tk x = true then some x else r2) = r2
        rw [if_neg (by rw [hk]; decide)]
      rw [e]
      obtain ⟨k2, S2, b2, f2, n2, s2⟩ := e2 S1
      refine ⟨k1 + k2 + 1, S2, by omega, fun j hj => (f2 j hj).trans (f1 j hj), fun hn n => ?_, fun v hv => ?_⟩
      · rw [show n + (k1 + k2 + 1) + 1 = ((n + k2 + 1) + 1) + k1 by omega, s1, hf S1 x hr1 v1 hk]
        exact n2 hn n
      · obtain ⟨v2, s2⟩ := s2 v hv
        refine ⟨v2, fun n => ?_⟩
        rw [show n + (k1 + k2 + 1) = ((n + k2) + 1) + k1 by omega, s1, hf S1 x hr1 v1 hk]
        exact s2 n
/-- steps that agree, on both sides -/
def zd_ag (K V : Int → Int) (a b : Int) (K' V' C' : Int → Int) : Prop := ∀ j, a ≤ j → j < b → K' j = K j ∧ V' j = V j ∧ C' j = 1048576 * zd_op (K j) + V j
def zd_fx (ρ : Option Int) (K V lt C : Int → Int) (a b h en f0 : Int) (S : Int → Int) : Prop :=
  zd_eff h S ρ (fun n => zf_Law_run_l0 en f0 K V lt n (h - 1) a S) (fun n S' => zf_Law_run_l0 en f0 K V lt n h b S') (fun S' => .inr (0, f0, S')) (b - a).toNat ∧
  zd_eff h S ρ (fun n => zf_M_comesTo_l0 en 0 C lt n h a S) (fun n S' => zf_M_comesTo_l0 en 0 C lt n (h + 1) b S') (fun S' => .inr (0, S')) (b - a).toNat
/-- the steps from a up to b come to ρ of the letters; cb: to 0 or 1 alone -/
def zd_seg (cb : Bool) (K V : Int → Int) (a b nd : Int) (ρ : (Int → Int) → Option Int) : Prop := (0 ≤ a ∧ a < b) ∧
  (cb = true → ∀ lt v, ρ lt = some v → v = 0 ∨ v = 1) ∧
  (∀ lt lt', (∀ j, a ≤ j → j < b → K j = 1 → 0 ≤ V j → V j < 13 → lt (V j) = lt' (V j)) → ρ lt = ρ lt') ∧
  ∀ lt K' V' C', zd_ag K V a b K' V' C' → ∀ h en f0 S, 0 ≤ h → h + nd ≤ 40 → b ≤ en → en ≤ 200 → zd_fx (ρ lt) K' V' lt C' a b h en f0 S
theorem zd_seg_fr {cb : Bool} {K V K2 V2 : Int → Int} {a b nd : Int} {ρ : (Int → Int) → Option Int} (h : zd_seg cb K V a b nd ρ) (k : ∀ j, a ≤ j → j < b → K2 j = K j ∧ V2 j = V j) : zd_seg cb K2 V2 a b nd ρ := by
  obtain ⟨h1, h2, h3, h4⟩ := h
  refine ⟨h1, h2, fun lt lt' q => h3 lt lt' fun j j1 j2 j3 j4 j5 => ?_, fun lt K' V' C' q => h4 lt K' V' C' fun j j1 j2 => ?_⟩
  · have := q j j1 j2 ((k j j1 j2).1.trans j3) (by rw [(k j j1 j2).2]; exact j4) (by rw [(k j j1 j2).2]; exact j5)
    rwa [(k j j1 j2).2] at this
  · have := q j j1 j2
    rw [(k j j1 j2).1, (k j j1 j2).2] at this
    exact this
theorem zd_seg_nd {cb : Bool} {K V : Int → Int} {a b nd nd2 : Int} {ρ : (Int → Int) → Option Int} (h : zd_seg cb K V a b nd ρ) (k : nd ≤ nd2) : zd_seg cb K V a b nd2 ρ :=
  ⟨h.1, h.2.1, h.2.2.1, fun lt K' V' C' q hh en f0 S a1 a2 => h.2.2.2 lt K' V' C' q hh en f0 S a1 (by omega)⟩
theorem zd_ag_l {K V K' V' C' : Int → Int} {a b c : Int} (h : zd_ag K V a c K' V' C') (k : b ≤ c) : zd_ag K V a b K' V' C' := fun j j1 j2 => h j j1 (by omega)
theorem zd_ag_r {K V K' V' C' : Int → Int} {a b c : Int} (h : zd_ag K V a c K' V' C') (k : a ≤ b) : zd_ag K V b c K' V' C' := fun j j1 j2 => h j (by omega) j2
theorem zd_eff_le {α : Type} {h : Int} {S : Int → Int} {r : Option Int} {A : Nat → Option α} {B : Nat → (Int → Int) → Option α} {bad : (Int → Int) → α} {l l2 : Nat} (e : zd_eff h S r A B bad l) (k : l ≤ l2) : zd_eff h S r A B bad l2 := by
  obtain ⟨k1, S1, b1, q⟩ := e
  exact ⟨k1, S1, by omega, q⟩
theorem zg_num {K V : Int → Int} {a : Int} (ha : 0 ≤ a) (hK : K a = 0) (v1 : 0 ≤ V a) (v2 : V a < 1048576) : zd_seg false K V a (a + 1) 1 (fun _ => some (V a)) := by
  refine ⟨⟨ha, by omega⟩, fun h => (by cases h), fun _ _ _ => rfl, fun lt K' V' C' q h en f0 S h1 h2 h3 h4 => ?_⟩
  obtain ⟨q1, q2, q3⟩ := q a (Int.le_refl _) (by omega)
  rw [hK] at q1 q3
  rw [← q2] at v1 v2 ⊢
  rw [← q2] at q3
  refine ⟨zd_eff_le (zd_leaf fun n => ?_) (by omega), zd_eff_le (zd_leaf fun n => ?_) (by omega)⟩
  · have := zx_num (n := n) (f0 := f0) (V := V') (lt := lt) (S := S) (t := h - 1) ha (by omega) h4 q1 (by omega) (by omega)
    rwa [show h - 1 + 1 = h by omega] at this
  · exact zm_num ha (by omega) h4 q3 v1 v2 h1 (by omega)
theorem zg_let {K V : Int → Int} {a : Int} (ha : 0 ≤ a) (hK : K a = 1) (v1 : 0 ≤ V a) (v2 : V a < 13) : zd_seg false K V a (a + 1) 1 (fun lt => some (lt (V a))) := by
  refine ⟨⟨ha, by omega⟩, fun h => (by cases h), fun lt lt' q => ?_, fun lt K' V' C' q h en f0 S h1 h2 h3 h4 => ?_⟩
  · show some (lt (V a)) = some (lt' (V a))
    rw [q a (Int.le_refl _) (by omega) hK v1 v2]
  obtain ⟨q1, q2, q3⟩ := q a (Int.le_refl _) (by omega)
  rw [hK] at q1 q3
  rw [← q2] at v1 v2 ⊢
  rw [← q2] at q3
  refine ⟨zd_eff_le (zd_leaf fun n => ?_) (by omega), zd_eff_le (zd_leaf fun n => ?_) (by omega)⟩
  · have := zx_let (n := n) (f0 := f0) (V := V') (lt := lt) (S := S) (t := h - 1) ha (by omega) h4 q1 v1 v2 (by omega) (by omega)
    rwa [show h - 1 + 1 = h by omega] at this
  · exact zm_let ha (by omega) h4 q3 v1 v2 h1 (by omega)
def zd_o (k x y : Int) : Option Int := if y = 0 ∧ (k = 8 ∨ k = 9) then none else some (zd_bin k x y)
theorem zg_bin {cb : Bool} {K V : Int → Int} {a b c nd nd2 : Int} {ρ1 ρ2 : (Int → Int) → Option Int} (s1 : zd_seg false K V a b nd ρ1) (s2 : zd_seg false K V b c nd2 ρ2) (k1 : 5 ≤ K c) (k2 : K c ≤ 12) (hV : V c = 0) (hnd : nd2 + 1 ≤ nd) (n2 : 1 ≤ nd2) (hcb : cb = true → 10 ≤ K c) : zd_seg cb K V a (c + 1) nd (fun lt => (ρ1 lt).bind fun x => (ρ2 lt).bind fun y => zd_o (K c) x y) := by
  obtain ⟨⟨a1, a2⟩, -, i1, e1⟩ := s1
  obtain ⟨⟨b1, b2⟩, -, i2, e2⟩ := s2
  refine ⟨⟨a1, by omega⟩, fun hc lt v hv => ?_, fun lt lt' q => ?_, fun lt K' V' C' q h en f0 S h1 h2 h3 h4 => ?_⟩
  · have k10 := hcb hc
    have hv : ((ρ1 lt).bind fun x => (ρ2 lt).bind fun y => zd_o (K c) x y) = some v := hv
    cases hx : ρ1 lt with
    | none => rw [hx] at hv; exact zl_ns hv
    | some x =>
      cases hy : ρ2 lt with
      | none => rw [hx, hy] at hv; exact zl_ns hv
      | some y =>
        rw [hx, hy] at hv
        have hv : zd_o (K c) x y = some v := hv
        unfold zd_o zd_bin at hv
        rw [if_neg (by omega), if_neg (by omega), if_neg (by omega), if_neg (by omega), if_neg (by omega), if_neg (by omega)] at hv
        cases hv
        (repeat' split) <;> simp
  · show ((ρ1 lt).bind fun x => (ρ2 lt).bind fun y => zd_o (K c) x y) = ((ρ1 lt').bind fun x => (ρ2 lt').bind fun y => zd_o (K c) x y)
    rw [i1 lt lt' (fun j j1 j2 => q j j1 (by omega)), i2 lt lt' (fun j j1 j2 => q j (by omega) (by omega))]
  obtain ⟨q1, q2, q3⟩ := q c (by omega) (by omega)
  rw [hV] at q3
  have e1 := e1 lt K' V' C' (zd_ag_l q (by omega)) h en f0 S h1 h2 (by omega) h4
  have e2 := fun S1 => e2 lt K' V' C' (zd_ag_r (zd_ag_l q (by omega)) (by omega)) (h + 1) en f0 S1 (by omega) (by omega) (by omega) h4
  refine ⟨zd_eff_le (zd_two (l2 := (c - b).toNat) (C := fun n S' => zf_Law_run_l0 en f0 K' V' lt n (h + 1) c S') e1.1 (fun S1 => ?_) fun S2 x y r1 r2 u1 u2 => ⟨fun ho n => ?_, fun z ho n => ?_⟩) (by omega), zd_eff_le (zd_two (l2 := (c - b).toNat) (C := fun n S' => zf_M_comesTo_l0 en 0 C' lt n (h + 1 + 1) c S') e1.2 (fun S1 => ?_) fun S2 x y r1 r2 u1 u2 => ⟨fun ho n => ?_, fun z ho n => ?_⟩) (by omega)⟩
  · have := (e2 S1).1
    rwa [show h + 1 - 1 = h by omega] at this
  · unfold zd_o at ho
    split at ho
    · rename_i hz
      exact zx_bad (t := h + 1) (by omega) (by omega) h4 (by rw [q1]; exact hz.2) (by rw [u2]; exact hz.1) (by omega) (by omega)
    · cases ho
  · unfold zd_o at ho
    split at ho
    · cases ho
    · rename_i hz
      cases ho
      have := zx_bin (n := n) (f0 := f0) (V := V') (lt := lt) (S := S2) (t := h + 1) (a := c) (K := K') (en := en) (by omega) (by omega) h4 (by omega) (by omega) (fun h0 => by rw [q1]; rw [u2] at h0; omega) (by omega) (by omega)
      rw [show h + 1 - 1 = h by omega, u1, u2, q1] at this
      exact this
  · exact (e2 S1).2
  · unfold zd_o at ho
    split at ho
    · rename_i hz
      exact zm_bad (t := h + 1 + 1) (by omega) (by omega) h4 q3 hz.2 (by rw [show h + 1 + 1 - 1 = h + 1 by omega, u2]; exact hz.1) (by decide) (by decide) (by omega) (by omega)
    · cases ho
  · unfold zd_o at ho
    split at ho
    · cases ho
    · rename_i hz
      cases ho
      have := zm_bin (n := n) (lt := lt) (S := S2) (t := h + 1 + 1) (by omega) (by omega) h4 q3 k1 k2 (fun h0 => by rw [show h + 1 + 1 - 1 = h + 1 by omega, u2] at h0; omega) (by decide) (by decide) (by omega) (by omega)
      rw [show h + 1 + 1 - 1 = h + 1 by omega, show h + 1 + 1 - 2 = h by omega, u1, u2] at this
      exact this
theorem zg_not {K V : Int → Int} {a b nd : Int} {ρ1 : (Int → Int) → Option Int} (s1 : zd_seg true K V a b nd ρ1) (hK : K b = 2) (hV : V b = 0) (n1 : 1 ≤ nd) : zd_seg true K V a (b + 1) nd (fun lt => (ρ1 lt).map fun x => if x = 0 then 1 else 0) := by
  obtain ⟨⟨a1, a2⟩, c1, i1, e1⟩ := s1
  refine ⟨⟨a1, by omega⟩, fun hc lt v hv => ?_, fun lt lt' q => ?_, fun lt K' V' C' q h en f0 S h1 h2 h3 h4 => ?_⟩
  · have hv : ((ρ1 lt).map fun x => if x = 0 then (1 : Int) else 0) = some v := hv
    cases hx : ρ1 lt with
    | none => rw [hx] at hv; exact zl_ns hv
    | some x =>
      rw [hx] at hv
      have hv : some (if x = 0 then (1 : Int) else 0) = some v := hv
      cases hv
      split <;> simp
  · show (ρ1 lt).map _ = (ρ1 lt').map _
    rw [i1 lt lt' (fun j j1 j2 => q j j1 (by omega))]
  obtain ⟨q1, q2, q3⟩ := q b (by omega) (by omega)
  rw [hK] at q1 q3
  rw [hV] at q3
  have e1 := e1 lt K' V' C' (zd_ag_l q (by omega)) h en f0 S h1 h2 (by omega) h4
  refine ⟨zd_eff_le (zd_map e1.1 fun S1 x r1 u1 n => ?_) (by omega), zd_eff_le (zd_map e1.2 fun S1 x r1 u1 n => ?_) (by omega)⟩
  · have := zx_not (n := n) (f0 := f0) (V := V') (lt := lt) (S := S1) (t := h) (by omega) (by omega) h4 q1 (by omega) (by omega)
    rwa [u1] at this
  · have hx := c1 rfl lt x r1
    have := zm_not (n := n) (lt := lt) (S := S1) (t := h + 1) (by omega) (by omega) h4 q3 (by decide) (by decide) (by rw [show h + 1 - 1 = h by omega, u1]; exact hx) (by omega) (by omega)
    rwa [show h + 1 - 1 = h by omega, u1] at this
theorem zg_jmp {K V : Int → Int} {a b c nd : Int} {ρ1 ρ2 : (Int → Int) → Option Int} (s1 : zd_seg true K V a b nd ρ1) (s2 : zd_seg true K V (b + 1) c nd ρ2) (hK : K b = 3 ∨ K b = 4) (hV : V b = c) (n1 : 1 ≤ nd) : zd_seg true K V a c nd (fun lt => (ρ1 lt).bind fun x => if decide (x = if K b = 3 then 1 else 0) = true then some x else ρ2 lt) := by
  obtain ⟨⟨a1, a2⟩, c1, i1, e1⟩ := s1
  obtain ⟨⟨b1, b2⟩, c2, i2, e2⟩ := s2
  refine ⟨⟨a1, by omega⟩, fun hc lt v hv => ?_, fun lt lt' q => ?_, fun lt K' V' C' q h en f0 S h1 h2 h3 h4 => ?_⟩
  · have hv : ((ρ1 lt).bind fun x => if decide (x = if K b = 3 then 1 else 0) = true then some x else ρ2 lt) = some v := hv
    cases hx : ρ1 lt with
    | none => rw [hx] at hv; exact zl_ns hv
    | some x =>
      rw [hx] at hv
      have hv : (if decide (x = if K b = 3 then 1 else 0) = true then some x else ρ2 lt) = some v := hv
      by_cases hd : decide (x = if K b = 3 then 1 else 0) = true
      · rw [if_pos hd] at hv
        cases hv; exact c1 rfl lt _ hx
      · rw [if_neg hd] at hv
        exact c2 rfl lt v hv
  · show ((ρ1 lt).bind fun x => if decide (x = if K b = 3 then 1 else 0) = true then some x else ρ2 lt) = ((ρ1 lt').bind fun x => if decide (x = if K b = 3 then 1 else 0) = true then some x else ρ2 lt')
    rw [i1 lt lt' (fun j j1 j2 => q j j1 (by omega)), i2 lt lt' (fun j j1 j2 => q j (by omega) (by omega))]
  obtain ⟨q1, q2, q3⟩ := q b (by omega) (by omega)
  rw [hV] at q2 q3
  have e1 := e1 lt K' V' C' (zd_ag_l q (by omega)) h en f0 S h1 h2 (by omega) h4
  have e2 := fun S1 => e2 lt K' V' C' (zd_ag_r q (by omega)) h en f0 S1 h1 h2 h3 h4
  have h01 : ∀ x, ρ1 lt = some x → x = 0 ∨ x = 1 := fun x hx => c1 rfl lt x hx
  refine ⟨zd_eff_le (zd_jump e1.1 (B2 := fun n S1 => zf_Law_run_l0 en f0 K' V' lt n (h - 1) (b + 1) S1) (fun S1 x r1 u1 hk n => ?_) (fun S1 x r1 u1 hk n => ?_) (fun S1 => (e2 S1).1)) (by omega), zd_eff_le (zd_jump e1.2 (B2 := fun n S1 => zf_M_comesTo_l0 en 0 C' lt n h (b + 1) S1) (fun S1 x r1 u1 hk n => ?_) (fun S1 x r1 u1 hk n => ?_) (fun S1 => (e2 S1).2)) (by omega)⟩
  · have hk := of_decide_eq_true hk
    have := zx_jmp (n := n) (f0 := f0) (K := K') (V := V') (lt := lt) (S := S1) (t := h) (a := b) (en := en) (by omega) (by omega) h4 (by
      rw [q1, u1]
      rcases hK with hK | hK
      · rw [if_pos hK] at hk; omega
      · rw [if_neg (by omega)] at hk; omega) (by omega) (by omega) (by omega) (by omega)
    rwa [q2] at this
  · have hk := of_decide_eq_false hk
    have hx := h01 x r1
    exact zx_thr (t := h) (by omega) (by omega) h4 (by
      rw [q1, u1]
      rcases hK with hK | hK
      · rw [if_pos hK] at hk; omega
      · rw [if_neg (by omega)] at hk; omega) (by omega) (by omega)
  · have hk := of_decide_eq_true hk
    exact zm_jmp (t := h + 1) (by omega) (by omega) h4 q3 (by
      rw [show h + 1 - 1 = h by omega, u1]
      rcases hK with hK | hK
      · rw [if_pos hK] at hk; omega
      · rw [if_neg (by omega)] at hk; omega) (by omega) (by omega) (by omega) (by omega)
  · have hk := of_decide_eq_false hk
    have hx := h01 x r1
    have := zm_thr (n := n) (lt := lt) (S := S1) (t := h + 1) (by omega) (by omega) h4 q3 (by
      rw [show h + 1 - 1 = h by omega, u1]
      rcases hK with hK | hK
      · rw [if_pos hK] at hk; omega
      · rw [if_neg (by omega)] at hk; omega) (by omega) (by omega) (by omega) (by omega)
    rwa [show h + 1 - 1 = h by omega] at this
/-- run and comesTo over such steps -/
theorem zd_run {cb : Bool} {K V C : Int → Int} {a b nd : Int} {ρ : (Int → Int) → Option Int} (s : zd_seg cb K V a b nd ρ) (hn : nd ≤ 40) (hb : b ≤ 200) (q : zd_ag K V a b K V C) (lt : Int → Int) :
    (∀ f0 S, ∃ S', zf_Law_run a b f0 K S V lt = some ((match ρ lt with | none => ((0 : Int), f0) | some v => ((1 : Int), v)).1, (match ρ lt with | none => ((0 : Int), f0) | some v => ((1 : Int), v)).2, S')) ∧
    ∀ S, ∃ S', zf_M_comesTo a b C S lt = some ((match ρ lt with | none => (0 : Int) | some v => v), S') := by
  obtain ⟨⟨a1, a2⟩, -, -, e⟩ := s
  have e := fun f0 S => e lt K V C q 0 b f0 S (Int.le_refl _) (by omega) (Int.le_refl _) hb
  refine ⟨fun f0 S => ?_, fun S => ?_⟩
  · obtain ⟨k, S', k1, -, kn, ks⟩ := (e f0 S).1
    have hf : zi_fu = (zi_fu - k - 1) + k + 1 := by
      have : 1000 < zi_fu := by decide
      omega
    refine ⟨S', ?_⟩
    unfold zf_Law_run
    rw [hf]
    cases hr : ρ lt with
    | none =>
      have := kn hr (zi_fu - k - 1)
      rw [show (0 : Int) - 1 = -1 from rfl] at this
      rw [show zf_Law_run_l0 b f0 K V lt (zi_fu - k - 1 + k + 1) (-1) a S = _ from this]
      rfl
    | some v =>
      obtain ⟨v1, v2⟩ := ks v hr
      have := v2 (zi_fu - k - 1 + 1)
      rw [show zi_fu - k - 1 + 1 + k = zi_fu - k - 1 + k + 1 by omega, show (0 : Int) - 1 = -1 from rfl] at this
      have this : zf_Law_run_l0 b f0 K V lt (zi_fu - k - 1 + k + 1) (-1) a S = zf_Law_run_l0 b f0 K V lt (zi_fu - k - 1 + 1) 0 b S' := this
      rw [this, zx_end (Int.le_refl _)]
      show (if (0 : Int) < 0 then some (1, 0, S') else (cond (zi_ix 0 40) (some (1, S' 0, S')) none)) = _
      rw [if_neg (by decide), v1]
      rfl
  · obtain ⟨k, S', k1, -, kn, ks⟩ := (e 0 S).2
    have hf : zi_fu = (zi_fu - k - 1) + k + 1 := by
      have : 1000 < zi_fu := by decide
      omega
    refine ⟨S', ?_⟩
    unfold zf_M_comesTo
    have h0 : zi_w (220 * (zi_div a 220)) = 0 := by
      rw [zi_div_eq a1 (by omega) (by decide) (by decide), show a / 220 = 0 by omega]; rfl
    rw [hf, h0]
    cases hr : ρ lt with
    | none =>
      have := kn hr (zi_fu - k - 1)
      rw [show zf_M_comesTo_l0 b 0 C lt (zi_fu - k - 1 + k + 1) 0 a S = _ from this]
      rfl
    | some v =>
      obtain ⟨v1, v2⟩ := ks v hr
      have := v2 (zi_fu - k - 1 + 1)
      rw [show zi_fu - k - 1 + 1 + k = zi_fu - k - 1 + k + 1 by omega] at this
      have this : zf_M_comesTo_l0 b 0 C lt (zi_fu - k - 1 + k + 1) 0 a S = zf_M_comesTo_l0 b 0 C lt (zi_fu - k - 1 + 1) (0 + 1) b S' := this
      rw [this, zm_end (Int.le_refl _)]
      show some (S' 0, S') = _
      rw [v1]
end
section
/-! Reading a sum: a machine with a stack, and what the class's reader does against it. -/
def yp_pk (T : Int → Int) (len p : Int) : Int := if p < len then T p else -1
def yp_dg (c : Int) : Bool := decide (48 ≤ c ∧ c ≤ 57)
theorem yp_dg_t {c : Int} : yp_dg c = true ↔ 48 ≤ c ∧ c ≤ 57 := by unfold yp_dg; rw [decide_eq_true_eq]
/-- up to so many digits -/
def yp_nm (T : Int → Int) (len : Int) : Nat → Int → Int → Int × Int
  | 0, v, p => (v, p)
  | k + 1, v, p => if yp_dg (yp_pk T len p) = true then yp_nm T len k (10 * v + yp_pk T len p - 48) (p + 1) else (v, p)
abbrev zCD : Type := Int × (Int → Int) × (Int → Int)
def yp_em (k v : Int) (c : zCD) : zCD := (c.1 + 1, zv_up c.2.1 c.1 k, zv_up c.2.2 c.1 v)
def yp_ln (j : Int) (c : zCD) : zCD := (c.1, c.2.1, zv_up c.2.2 j c.1)
def yp_ss (c : Int) : Int := if c = 43 then 2 else if c = 45 then 3 else if c = 42 then 4 else if c = 47 then 5 else if c = 37 then 6 else -1
theorem yp_ss_in (c : Int) : yp_ss c = -1 ∨ (2 ≤ yp_ss c ∧ yp_ss c ≤ 6) := by unfold yp_ss; (repeat' split) <;> decide
def yp_lt (c : Int) : Int := if c = 104 then 0 else if c = 117 then 1 else if c = 105 then 2 else if c = 109 then 3 else if c = 114 then 4 else if c = 99 then 5 else if c = 107 then 6 else if c = 110 then 7 else if c = 115 then 8 else if c = 101 then 9 else if c = 120 then 10 else if c = 121 then 11 else if c = 100 then 12 else -1
theorem yp_lt_in (c : Int) : yp_lt c = -1 ∨ (0 ≤ yp_lt c ∧ yp_lt c < 13) := by 
  by_cases h : 98 ≤ c ∧ c ≤ 125
  · have hd : ∀ k : Nat, k < 28 → yp_lt ((k : Int) + 98) = -1 ∨ (0 ≤ yp_lt ((k : Int) + 98) ∧ yp_lt ((k : Int) + 98) < 13) := by decide
    have := hd (c - 98).toNat (by omega)
    rwa [show (((c - 98).toNat : Nat) : Int) + 98 = c by omega] at this
  · left
    unfold yp_lt
    rw [if_neg (by omega), if_neg (by omega), if_neg (by omega), if_neg (by omega), if_neg (by omega), if_neg (by omega), if_neg (by omega), if_neg (by omega), if_neg (by omega), if_neg (by omega), if_neg (by omega), if_neg (by omega), if_neg (by omega)]
/-- what waits is noted: times .. rest, or all -/
def yp_cl (all : Bool) : List Int → zCD → List Int × zCD
  | [], c => ([], c)
  | s :: w, c => if (4 ≤ s ∧ s ≤ 6) ∨ (all = true ∧ (s = 2 ∨ s = 3)) then yp_cl all w (yp_em (s + 3) 0 c) else (s :: w, c)
/-- reading: true: a factor is due; false: behind one -/
def yp_S (T : Int → Int) (len : Int) : Nat → Bool → List Int → Int → Int → zCD → Option (Int ⊕ (Int × zCD))
  | 0, _, _, _, _, _ => none
  | n + 1, true, w, o, p, c => if yp_pk T len p = 91 then (if o = 6 then some (.inl (-5000 - p)) else yp_S T len n true (14 :: w) (o + 1) (p + 1) c)
    else if yp_dg (yp_pk T len p) = true then (if yp_dg (yp_pk T len (yp_nm T len 5 0 p).2) = true then some (.inl (-2000 - (yp_nm T len 5 0 p).2)) else yp_S T len n false w o (yp_nm T len 5 0 p).2 (yp_em 0 (yp_nm T len 5 0 p).1 c))
    else if yp_lt (yp_pk T len p) = -1 then some (.inl (-1000 - p)) else yp_S T len n false w o (p + 1) (yp_em 1 (yp_lt (yp_pk T len p)) c)
  | n + 1, false, w, o, p, c => if yp_ss (yp_pk T len p) ≠ -1 then yp_S T len n true (yp_ss (yp_pk T len p) :: (yp_cl (decide (yp_ss (yp_pk T len p) < 4)) w c).1) o (p + 1) (yp_cl (decide (yp_ss (yp_pk T len p) < 4)) w c).2
    else if 14 ∈ w then (if yp_pk T len p = 93 then yp_S T len n false (yp_cl true w c).1.tail (o - 1) (p + 1) (yp_cl true w c).2 else some (.inl (-1000 - p)))
    else some (.inr (p, (yp_cl true w c).2))
section ZPS
variable {T : Int → Int} {len o p : Int} {c : zCD} {w : List Int} {n : Nat}
theorem yp_S_t : yp_S T len (n + 1) true w o p c = if yp_pk T len p = 91 then (if o = 6 then some (.inl (-5000 - p)) else yp_S T len n true (14 :: w) (o + 1) (p + 1) c)
    else if yp_dg (yp_pk T len p) = true then (if yp_dg (yp_pk T len (yp_nm T len 5 0 p).2) = true then some (.inl (-2000 - (yp_nm T len 5 0 p).2)) else yp_S T len n false w o (yp_nm T len 5 0 p).2 (yp_em 0 (yp_nm T len 5 0 p).1 c))
    else if yp_lt (yp_pk T len p) = -1 then some (.inl (-1000 - p)) else yp_S T len n false w o (p + 1) (yp_em 1 (yp_lt (yp_pk T len p)) c) := rfl
theorem yp_S_f : yp_S T len (n + 1) false w o p c = if yp_ss (yp_pk T len p) ≠ -1 then yp_S T len n true (yp_ss (yp_pk T len p) :: (yp_cl (decide (yp_ss (yp_pk T len p) < 4)) w c).1) o (p + 1) (yp_cl (decide (yp_ss (yp_pk T len p) < 4)) w c).2
    else if 14 ∈ w then (if yp_pk T len p = 93 then yp_S T len n false (yp_cl true w c).1.tail (o - 1) (p + 1) (yp_cl true w c).2 else some (.inl (-1000 - p)))
    else some (.inr (p, (yp_cl true w c).2)) := rfl
def yp_tm (w : List Int) : Prop := ∀ s w', w = s :: w' → s < 4 ∨ 6 < s
def yp_ta (w : List Int) : Prop := ∀ s w', w = s :: w' → s < 2 ∨ 6 < s
def yp_al (_ : List Int) : Prop := True
theorem yp_cl_c {all : Bool} {s : Int} : yp_cl all (s :: w) c = if (4 ≤ s ∧ s ≤ 6) ∨ (all = true ∧ (s = 2 ∨ s = 3)) then yp_cl all w (yp_em (s + 3) 0 c) else (s :: w, c) := rfl
theorem yp_cl_n (h : yp_tm w) : yp_cl false w c = (w, c) := by
  cases w with
  | nil => rfl
  | cons s w =>
    rw [yp_cl_c, if_neg]
    intro hh
    have := h s w rfl
    rcases hh with h1 | ⟨h1, _⟩
    · omega
    · cases h1
theorem yp_cl_a (h : yp_ta w) : yp_cl true w c = (w, c) := by
  cases w with
  | nil => rfl
  | cons s w =>
    rw [yp_cl_c, if_neg]
    intro hh
    have := h s w rfl
    rcases hh with h1 | ⟨_, h1⟩ <;> omega
theorem yp_S_mul {s : Int} (h : 4 ≤ s ∧ s ≤ 6) : yp_S T len n false (s :: w) o p c = yp_S T len n false w o p (yp_em (s + 3) 0 c) := by
  cases n with
  | zero => rfl
  | succ n =>
    have e : (14 ∈ s :: w) ↔ 14 ∈ w := by
      rw [List.mem_cons]
      exact ⟨fun q => q.elim (fun e => by omega) id, Or.inr⟩
    have q : ∀ all, yp_cl all (s :: w) c = yp_cl all w (yp_em (s + 3) 0 c) := fun all => by rw [yp_cl_c, if_pos (Or.inl h)]
    rw [yp_S_f, yp_S_f, q, q]
    by_cases hm : 14 ∈ w
    · rw [if_pos hm, if_pos (e.mpr hm)]
    · rw [if_neg hm, if_neg (fun k => hm (e.mp k))]
theorem yp_S_add {s : Int} (h : s = 2 ∨ s = 3) (hn : yp_ss (yp_pk T len p) < 4) : yp_S T len n false (s :: w) o p c = yp_S T len n false w o p (yp_em (s + 3) 0 c) := by
  cases n with
  | zero => rfl
  | succ n =>
    have e : (14 ∈ s :: w) ↔ 14 ∈ w := by
      rw [List.mem_cons]
      exact ⟨fun q => q.elim (fun e => by omega) id, Or.inr⟩
    have q : yp_cl true (s :: w) c = yp_cl true w (yp_em (s + 3) 0 c) := by rw [yp_cl_c, if_pos (Or.inr ⟨rfl, h⟩)]
    rw [yp_S_f, yp_S_f, decide_eq_true hn, q]
    by_cases hm : 14 ∈ w
    · rw [if_pos hm, if_pos (e.mpr hm)]
    · rw [if_neg hm, if_neg (fun k => hm (e.mp k))]
end ZPS
/-! The class's small readers. -/
section ZES
variable {T K V : Int → Int} {len p c k v : Int}
theorem ze_peek (h1 : 0 ≤ p) (h2 : len ≤ 220) : zf_LawReader_peek p len T = some (yp_pk T len p) := by
  unfold zf_LawReader_peek yp_pk
  rw [if_neg (by omega)]
  by_cases h : p < len
  · rw [if_pos h, if_pos h, zl_ci h1 (by omega)]
  · rw [if_neg h, if_neg h]
theorem ze_isDigit : zf_LawReader_isDigit c = some (if yp_dg c = true then 1 else 0) := by
  unfold zf_LawReader_isDigit
  by_cases a : c < 48
  · rw [if_pos a, if_neg (fun h => by have := yp_dg_t.mp h; omega)]
  · rw [if_neg a]
    by_cases b : 57 < c
    · rw [if_pos b, if_neg (fun h => by have := yp_dg_t.mp h; omega)]
    · rw [if_neg b, if_pos (yp_dg_t.mpr (by omega))]
theorem ze_fail (h1 : 0 ≤ p) (h2 : p ≤ 220) (k1 : 0 ≤ k) (k2 : k ≤ 6) : zf_LawReader_fail k 0 p = some (-1000 * k - p) := by
  unfold zf_LawReader_fail zf_X_faultAt
  rw [if_pos rfl, zl_b, zi_w_id (x := -1000 * k) (by omega) (by omega), zi_w_id (by omega) (by omega)]
theorem ze_skip (h1 : 0 ≤ p) (h2 : p ≤ 220) (h3 : len ≤ 220) : zf_LawReader_skip c 0 p len T = some (if yp_pk T len p = c then (0, p + 1) else (-1000 - p, p)) := by
  unfold zf_LawReader_skip
  rw [if_pos rfl, ze_peek h1 h3, zl_b]
  by_cases h : yp_pk T len p = c
  · rw [if_pos h, if_pos h, zi_w_id (by omega) (by omega)]
  · rw [if_neg h, if_neg h, ze_fail h1 h2 (by decide) (by decide), zl_b]
    rfl
theorem ze_skipf {f : Int} (hf : f ≠ 0) : zf_LawReader_skip c f p len T = some (f, p) := by
  unfold zf_LawReader_skip
  rw [if_neg hf]
theorem ze_addStep (h1 : 0 ≤ c) (h2 : c < 200) : zf_Law_addStep k v c K V = some (c, c + 1, zv_up K c k, zv_up V c v) := by
  unfold zf_Law_addStep
  rw [if_pos h2, zl_ci h1 (by omega), zi_w_id (x := c + 1) (by omega) (by omega), zi_w_id (by omega) (by omega), show c + 1 - 1 = c by omega]
theorem ze_addStep_a (h1 : 0 ≤ c) (h2 : c ≤ 200) : ∃ a c' K' V', zf_Law_addStep k v c K V = some (a, c', K', V') ∧ 0 ≤ c' ∧ c' ≤ 200 ∧ -1 ≤ a ∧ a < 200 := by
  by_cases h : c < 200
  · exact ⟨_, _, _, _, ze_addStep h1 h, by omega, by omega, by omega, by omega⟩
  · refine ⟨c - 1, c, K, V, ?_, h1, h2, by omega, by omega⟩
    unfold zf_Law_addStep
    rw [if_neg h, zi_w_id (by omega) (by omega)]
def yp_bd : Nat → Int
  | 0 => 99999
  | 1 => 9999
  | 2 => 999
  | 3 => 99
  | 4 => 9
  | _ => 0
theorem yp_bd_s : ∀ k, k < 5 → 10 * yp_bd (k + 1) + 9 ≤ yp_bd k ∧ yp_bd k ≤ 99999 := by decide
theorem yp_nm_in : ∀ (k : Nat) (v p : Int), k ≤ 5 → 0 ≤ v → v ≤ yp_bd k → p ≤ len → (0 ≤ (yp_nm T len k v p).1 ∧ (yp_nm T len k v p).1 ≤ 99999) ∧ p ≤ (yp_nm T len k v p).2 ∧ (yp_nm T len k v p).2 ≤ p + k ∧ (yp_nm T len k v p).2 ≤ len := by
  intro k
  induction k with
  | zero => intro v p _ v1 v2 hp; exact ⟨⟨v1, v2⟩, Int.le_refl _, by show p ≤ p + ((0 : Nat) : Int); omega, hp⟩
  | succ k ih =>
    intro v p hk v1 v2 hp
    obtain ⟨b1, b2⟩ := yp_bd_s k (by omega)
    unfold yp_nm
    by_cases h : yp_dg (yp_pk T len p) = true
    · rw [if_pos h]
      have hd := yp_dg_t.mp h
      have hp2 : p < len := by
        apply Int.not_le.mp
        intro hh
        unfold yp_pk at hd
        rw [if_neg (by omega)] at hd
        omega
      obtain ⟨a1, a2, a3, a4⟩ := ih (10 * v + yp_pk T len p - 48) (p + 1) (by omega) (by omega) (by omega) (by omega)
      exact ⟨a1, by omega, by omega, a4⟩
    · rw [if_neg h]
      exact ⟨⟨v1, by show v ≤ 99999; omega⟩, Int.le_refl _, by show p ≤ p + ((k + 1 : Nat) : Int); omega, hp⟩
theorem yp_nm_lt {v : Int} {k : Nat} (h : yp_dg (yp_pk T len p) = true) (hk : k ≤ 4) (v1 : 0 ≤ v) (v2 : v ≤ yp_bd (k + 1)) : p < (yp_nm T len (k + 1) v p).2 := by
  unfold yp_nm
  rw [if_pos h]
  have hd := yp_dg_t.mp h
  obtain ⟨b1, b2⟩ := yp_bd_s k (by omega)
  have hp2 : p < len := by
    apply Int.not_le.mp
    intro hh
    unfold yp_pk at hd
    rw [if_neg (by omega)] at hd
    omega
  have := (yp_nm_in (T := T) (len := len) k (10 * v + yp_pk T len p - 48) (p + 1) (by omega) (by omega) (by omega) (by omega)).2.1
  omega
theorem ze_rn_l0 (hl : len ≤ 220) : ∀ (k : Nat) (v d p : Int) (n : Nat), d + k = 5 → k ≤ 5 → k < n → 0 ≤ v → v ≤ yp_bd k → 0 ≤ p → p ≤ len → zf_LawReader_readNumber_l0 len T n v d p = some (yp_nm T len k v p) := by
  intro k
  induction k with
  | zero =>
    intro v d p n e _ hn _ _ _ _
    obtain ⟨n, rfl⟩ : ∃ q, n = q + 1 := ⟨n - 1, by omega⟩
    show zf_LawReader_readNumber_l0_b len T (zf_LawReader_readNumber_l0 len T n) v d p = _
    unfold zf_LawReader_readNumber_l0_b
    rw [if_neg (by omega)]
    rfl
  | succ k ih =>
    intro v d p n e hk hn v1 v2 p1 p2
    obtain ⟨n, rfl⟩ : ∃ q, n = q + 1 := ⟨n - 1, by omega⟩
    show zf_LawReader_readNumber_l0_b len T (zf_LawReader_readNumber_l0 len T n) v d p = _
    unfold zf_LawReader_readNumber_l0_b yp_nm
    obtain ⟨b1, b2⟩ := yp_bd_s k (by omega)
    rw [if_pos (by omega), ze_peek p1 hl, zl_b, ze_isDigit, zl_b]
    by_cases h : yp_dg (yp_pk T len p) = true
    · rw [if_pos h, if_pos h, if_neg (by decide), zl_b]
      have hd := yp_dg_t.mp h
      have hp2 : p < len := by
        apply Int.not_le.mp
        intro hh
        unfold yp_pk at hd
        rw [if_neg (by omega)] at hd
        omega
      rw [zi_w_id (x := 10 * v) (by omega) (by omega), zi_w_id (x := 10 * v + yp_pk T len p) (by omega) (by omega), zi_w_id (x := 10 * v + yp_pk T len p - 48) (by omega) (by omega), zi_w_id (x := d + 1) (by omega) (by omega), zi_w_id (x := p + 1) (by omega) (by omega)]
      exact ih _ _ _ _ (by omega) (by omega) (by omega) (by omega) (by omega) (by omega) (by omega)
    · rw [if_neg h, if_neg h, if_pos rfl]
theorem ze_readNumber (hl : len ≤ 200) (p1 : 0 ≤ p) (p2 : p ≤ len) (c1 : 0 ≤ c) (c2 : c < 200) : zf_LawReader_readNumber p len c 0 T K V = some ((yp_nm T len 5 0 p).2, c + 1, (if yp_dg (yp_pk T len (yp_nm T len 5 0 p).2) = true then -2000 - (yp_nm T len 5 0 p).2 else 0), zv_up K c 0, zv_up V c (yp_nm T len 5 0 p).1) := by
  obtain ⟨a1, a2, a3, a4⟩ := yp_nm_in (T := T) (len := len) 5 0 p (by decide) (by decide) (by decide) p2
  unfold zf_LawReader_readNumber
  rw [ze_rn_l0 (T := T) (by omega) 5 0 0 p zi_fu rfl (by decide) (by decide) (by decide) (by decide) p1 p2, zl_b, ze_peek (by omega) (by omega), zl_b, ze_isDigit, zl_b]
  by_cases h : yp_dg (yp_pk T len (yp_nm T len 5 0 p).2) = true
  · rw [if_pos h, if_pos h, if_neg (by decide), ze_fail (by omega) (by omega) (by decide) (by decide), zl_b, ze_addStep c1 c2, zl_b]
    rfl
  · rw [if_neg h, if_neg h, if_pos rfl, ze_addStep c1 c2, zl_b]
theorem ze_letter (h1 : 0 ≤ c) (h2 : c ≤ 255) : zi_letter (zi_ch c) = yp_lt c := by
  have h : ∀ k : Nat, k < 256 → zi_letter (zi_ch (k : Int)) = yp_lt (k : Int) := by decide +kernel
  have := h c.toNat (by omega)
  rwa [show ((c.toNat : Nat) : Int) = c by omega] at this
end ZES
end
section
/-! Factors, terms and sums: the class's reader goes as the machine goes. -/
def yp_okE (T : Int → Int) (len o nd : Int) (W : List Int → Prop) (N : Int → Prop) (p : Int) (c : zCD) (p' : Int) (c' : zCD) : Prop :=
  p < p' ∧ c.1 < c'.1 ∧ c'.1 - c.1 ≤ p' - p ∧ (∀ j, j < c.1 → c'.2.1 j = c.2.1 j ∧ c'.2.2 j = c.2.2 j) ∧ (∃ ρ, zd_seg false c'.2.1 c'.2.2 c.1 c'.1 nd ρ) ∧ N (yp_pk T len p') ∧
  ∀ w, W w → ∃ k : Nat, (k : Int) ≤ p' - p ∧ ∀ n, yp_S T len (n + k) true w o p c = yp_S T len n false w o p' c'
def yp_noE (T : Int → Int) (len o : Int) (W : List Int → Prop) (p : Int) (c : zCD) (f : Int) : Prop :=
  ∀ w, W w → ∃ k : Nat, (k : Int) ≤ len - p ∧ ∀ n, yp_S T len (n + k + 1) true w o p c = some (.inl f)
def yp_E (T : Int → Int) (len o nd : Int) (W : List Int → Prop) (N : Int → Prop) (p : Int) (c : zCD) (r : Int × Int × zCD) : Prop :=
  (0 ≤ r.2.1 ∧ r.2.1 ≤ len) ∧ (0 ≤ r.2.2.1 ∧ r.2.2.1 ≤ 200) ∧ (r.1 = 0 → yp_okE T len o nd W N p c r.2.1 r.2.2) ∧ (r.1 ≠ 0 → yp_noE T len o W p c r.1)
def yp_any (_ : Int) : Prop := True
def yp_nom (x : Int) : Prop := yp_ss x < 4
def yp_nos (x : Int) : Prop := yp_ss x = -1
section ZPE
variable {T : Int → Int} {len o nd nd2 : Int} {W W2 : List Int → Prop} {N N2 : Int → Prop} {p0 p s kk : Int} {c0 c : zCD} {r : Int × Int × zCD}
theorem yp_E_N (h : yp_E T len o nd W N2 p0 c0 r) (k : r.1 = 0 → N (yp_pk T len r.2.1)) : yp_E T len o nd W N p0 c0 r :=
  ⟨h.1, h.2.1, fun e => (by
    obtain ⟨q1, q2, q3, q4, q5, q6, q7⟩ := h.2.2.1 e
    exact ⟨q1, q2, q3, q4, q5, k e, q7⟩), h.2.2.2⟩
theorem yp_E_W (h : yp_E T len o nd W N p0 c0 r) (hn : nd ≤ nd2) (k : ∀ w, W2 w → W w) : yp_E T len o nd2 W2 N p0 c0 r :=
  ⟨h.1, h.2.1, fun e => (by
    obtain ⟨q1, q2, q3, q4, ⟨ρ, q5⟩, q6, q7⟩ := h.2.2.1 e
    exact ⟨q1, q2, q3, q4, ⟨ρ, zd_seg_nd q5 hn⟩, q6, fun w hw => q7 w (k w hw)⟩), fun e w hw => h.2.2.2 e w (k w hw)⟩
theorem yp_pk_lt (h : yp_pk T len p ≠ -1) : p < len := by
  apply Int.not_le.mp
  intro hh
  apply h
  unfold yp_pk
  rw [if_neg (by omega)]
theorem yp_E_step (hl : len ≤ 200) (h0 : c0.1 ≤ p0) (hs : yp_E T len o nd W N p0 c0 (0, p, c)) (hp : p < len) (hss : yp_ss (T p) = s) (s1 : 2 ≤ s) (s2 : s ≤ 6) (hk : kk = s + 3) (hr : yp_E T len o nd2 W2 N2 (p + 1) c r)
    (hW : ∀ w, W w → W2 (s :: w) ∧ yp_cl (decide (s < 4)) w c = (w, c)) (hM : ∀ w c' p', N2 (yp_pk T len p') → ∀ n, yp_S T len n false (s :: w) o p' c' = yp_S T len n false w o p' (yp_em kk 0 c')) (hn : nd2 + 1 ≤ nd) (hn1 : 1 ≤ nd2) :
    (r.1 = 0 → (0 ≤ r.2.2.1 ∧ r.2.2.1 < 200 ∧ p + 1 < r.2.1) ∧ yp_E T len o nd W yp_any p0 c0 (0, r.2.1, yp_em kk 0 r.2.2)) ∧ (r.1 ≠ 0 → ∀ c'' : zCD, 0 ≤ c''.1 → c''.1 ≤ 200 → yp_E T len o nd W N p0 c0 (r.1, r.2.1, c'')) := by
  obtain ⟨⟨p1, p2⟩, ⟨c1, c2⟩, hs, -⟩ := hs
  obtain ⟨a1, a2, a3, a4, ⟨ρ1, a5⟩, -, a7⟩ := hs rfl
  obtain ⟨⟨r1, r2⟩, ⟨r3, r4⟩, ro, rb⟩ := hr
  have a3 : c.1 - c0.1 ≤ p - p0 := a3
  have a2 : c0.1 < c.1 := a2
  have a1 : p0 < p := a1
  have p2 : p ≤ len := p2
  have pk : yp_pk T len p = T p := if_pos hp
  have one : ∀ w, W w → ∀ n, yp_S T len (n + 1) false w o p c = yp_S T len n true (s :: w) o (p + 1) c := fun w hw n => by
    rw [yp_S_f, pk, hss, if_pos (by omega), (hW w hw).2]
  refine ⟨fun e => ?_, fun e c'' d1 d2 => ?_⟩
  · obtain ⟨b1, b2, b3, b4, ⟨ρ2, b5⟩, b6, b7⟩ := ro e
    refine ⟨⟨r3, by omega, b1⟩, ⟨r1, r2⟩, ⟨?_, ?_⟩, fun _ => ⟨?_, ?_, ?_, fun j hj => ?_, ⟨_, zg_bin (nd2 := nd2) (b := c.1) (c := r.2.2.1) (ρ1 := ρ1) (ρ2 := ρ2) ?_ ?_ ?_ ?_ ?_ hn hn1 (fun h => by cases h)⟩, trivial, fun w hw => ?_⟩, fun h => absurd rfl h⟩
    · show 0 ≤ r.2.2.1 + 1; omega
    · show r.2.2.1 + 1 ≤ 200; omega
    · show p0 < r.2.1; omega
    · show c0.1 < r.2.2.1 + 1; omega
    · show r.2.2.1 + 1 - c0.1 ≤ r.2.1 - p0; omega
    · have q1 := b4 j (by omega)
      have q2 := a4 j hj
      exact ⟨(zv_up_n (show j ≠ r.2.2.1 by omega)).trans (q1.1.trans q2.1), (zv_up_n (show j ≠ r.2.2.1 by omega)).trans (q1.2.trans q2.2)⟩
    · exact zd_seg_fr a5 fun j j1 j2 => ⟨(zv_up_n (show j ≠ r.2.2.1 by omega)).trans (b4 j j2).1, (zv_up_n (show j ≠ r.2.2.1 by omega)).trans (b4 j j2).2⟩
    · exact zd_seg_fr b5 fun j j1 j2 => ⟨zv_up_n (show j ≠ r.2.2.1 by omega), zv_up_n (show j ≠ r.2.2.1 by omega)⟩
    · show 5 ≤ zv_up r.2.2.2.1 r.2.2.1 kk r.2.2.1
      rw [zv_up_s]; omega
    · show zv_up r.2.2.2.1 r.2.2.1 kk r.2.2.1 ≤ 12
      rw [zv_up_s]; omega
    · exact zv_up_s
    · obtain ⟨k1, l1, u1⟩ := a7 w hw
      obtain ⟨k2, l2, u2⟩ := b7 (s :: w) (hW w hw).1
      have l1 : (k1 : Int) ≤ p - p0 := l1
      refine ⟨k1 + 1 + k2, by show ((k1 + 1 + k2 : Nat) : Int) ≤ r.2.1 - p0; omega, fun n => ?_⟩
      rw [show n + (k1 + 1 + k2) = (n + k2 + 1) + k1 by omega, u1]
      show yp_S T len (n + k2 + 1) false w o p c = _
      rw [one w hw, u2, hM w _ _ b6]
  · refine ⟨⟨r1, r2⟩, ⟨d1, d2⟩, fun h => absurd h e, fun _ w hw => ?_⟩
    obtain ⟨k1, l1, u1⟩ := a7 w hw
    obtain ⟨k2, l2, u2⟩ := rb e (s :: w) (hW w hw).1
    have l1 : (k1 : Int) ≤ p - p0 := l1
    refine ⟨k1 + 1 + k2, by omega, fun n => ?_⟩
    rw [show n + (k1 + 1 + k2) + 1 = ((n + k2 + 1) + 1) + k1 by omega, u1]
    show yp_S T len (n + k2 + 1 + 1) false w o p c = _
    rw [one w hw, u2]
end ZPE
abbrev zRC : Type := Nat → Int → Int → Int → Int → Int → (Int → Int) → (Int → Int) → (Int → Int) → Option (Int × Int × Int × (Int → Int) × (Int → Int))
/-- a reader that goes as the machine goes -/
def yr_is (R : Int → zCD → Option (Int × Int × zCD)) (T : Int → Int) (len o nd : Int) (W : List Int → Prop) (N : Int → Prop) : Prop := ∀ (p : Int) (c : zCD), 0 ≤ p → p ≤ len → 0 ≤ c.1 → c.1 ≤ p → zh_ok (R p c) (yp_E T len o nd W N p c)
section ZRT
variable {rc : zRC} {T : Int → Int} {len o : Int}
theorem yr_term_f {n : Nat} {f p c : Int} {K V : Int → Int} (hf : f ≠ 0) : zm_LawReader_readTerm_l0 rc o len T (n + 1) f p c K V = some (f, p, c, K, V) := by
  show zm_LawReader_readTerm_l0_b rc o len T (zm_LawReader_readTerm_l0 rc o len T n) f p c K V = _
  unfold zm_LawReader_readTerm_l0_b
  rw [if_neg hf]
theorem yr_term_l (hl : len ≤ 200) (ho : o ≤ 6) (hF : yr_is (fun p c => rc 2 o 0 p len c.1 T c.2.1 c.2.2) T len o (13 - 2 * o) yp_al yp_any) {p0 : Int} {c0 : zCD} (h0 : c0.1 ≤ p0) (h00 : 0 ≤ c0.1) : ∀ (m : Nat) (f p : Int) (c : zCD) (n : Nat), len - p ≤ m → m < n → yp_E T len o (14 - 2 * o) yp_tm yp_any p0 c0 (f, p, c) →
    zh_ok (zm_LawReader_readTerm_l0 rc o len T n f p c.1 c.2.1 c.2.2) (yp_E T len o (14 - 2 * o) yp_tm yp_nom p0 c0) := by
  intro m
  induction m with
  | zero =>
    intro f p c n hm hn hs
    obtain ⟨n, rfl⟩ : ∃ q, n = q + 1 := ⟨n - 1, by omega⟩
    by_cases hf : f = 0
    · show zh_ok (zm_LawReader_readTerm_l0_b rc o len T (zm_LawReader_readTerm_l0 rc o len T n) f p c.1 c.2.1 c.2.2) _
      unfold zm_LawReader_readTerm_l0_b
      rw [if_pos hf, if_neg (by omega)]
      exact zh_ret (yp_E_N hs fun _ => by
        show yp_ss (yp_pk T len p) < 4
        unfold yp_pk
        rw [if_neg (by omega)]; decide)
    · rw [yr_term_f hf]
      exact zh_ret (yp_E_N hs fun h => absurd h hf)
  | succ m ih =>
    intro f p c n hm hn hs
    obtain ⟨n, rfl⟩ : ∃ q, n = q + 1 := ⟨n - 1, by omega⟩
    by_cases hf : f = 0
    · subst hf
      by_cases hp : p < len
      · have p1 : 0 ≤ p := hs.1.1
        have c1 : 0 ≤ c.1 := hs.2.1.1
        have cp : c.1 ≤ p := by
          obtain ⟨a1, a2, a3, -⟩ := hs.2.2.1 rfl
          have a1 : p0 < p := a1
          have a3 : c.1 - c0.1 ≤ p - p0 := a3
          omega
        have pk : yp_pk T len p = T p := if_pos hp
        show zh_ok (zm_LawReader_readTerm_l0_b rc o len T (zm_LawReader_readTerm_l0 rc o len T n) 0 p c.1 c.2.1 c.2.2) _
        unfold zm_LawReader_readTerm_l0_b
        rw [if_pos rfl, if_pos hp, zl_ci p1 (by omega), zi_w_id (x := p + 1) (by omega) (by omega)]
        have step : ∀ s kk, 4 ≤ s → s ≤ 6 → kk = s + 3 → yp_ss (T p) = s → zh_ok ((rc 2 o 0 (p + 1) len c.1 T c.2.1 c.2.2).bind fun r7 => ((zf_Law_addStep kk 0 r7.2.2.1 r7.2.2.2.1 r7.2.2.2.2).bind fun r8 => (zm_LawReader_readTerm_l0 rc o len T n r7.1 r7.2.1 r8.2.1 r8.2.2.1 r8.2.2.2))) (yp_E T len o (14 - 2 * o) yp_tm yp_nom p0 c0) := by
          intro s kk s1 s2 hk hss
          refine zh_bind (hF (p + 1) c (by omega) (by omega) c1 (by omega)) fun r hr => ?_
          obtain ⟨q1, q2⟩ := yp_E_step hl h0 hs hp hss (by omega) s2 hk hr (fun w hw => ⟨trivial, by rw [decide_eq_false (by omega)]; exact yp_cl_n hw⟩) (fun w c' p' _ n => by rw [hk]; exact yp_S_mul ⟨s1, s2⟩) (by omega) (by omega)
          by_cases he : r.1 = 0
          · obtain ⟨⟨b1, b2, b3⟩, q1⟩ := q1 he
            rw [ze_addStep b1 b2, zl_b, he]
            exact ih 0 r.2.1 (yp_em kk 0 r.2.2) n (by omega) (by omega) q1
          · obtain ⟨a, c', K', V', e1, e2, e3, -⟩ := ze_addStep_a (k := kk) (v := 0) (K := r.2.2.2.1) (V := r.2.2.2.2) hr.2.1.1 hr.2.1.2
            rw [e1, zl_b]
            obtain ⟨n, rfl⟩ : ∃ q, n = q + 1 := ⟨n - 1, by omega⟩
            rw [yr_term_f he]
            exact zh_ret (yp_E_N (q2 he (c', K', V') e2 e3) fun h => absurd h he)
        by_cases h42 : T p = 42
        · rw [if_pos h42]
          exact step 4 7 (by decide) (by decide) rfl (by rw [h42]; rfl)
        rw [if_neg h42]
        by_cases h47 : T p = 47
        · rw [if_pos h47]
          exact step 5 8 (by decide) (by decide) rfl (by rw [h47]; rfl)
        rw [if_neg h47]
        by_cases h37 : T p = 37
        · rw [if_pos h37]
          exact step 6 9 (by decide) (by decide) rfl (by rw [h37]; rfl)
        rw [if_neg h37]
        exact zh_ret (yp_E_N hs fun _ => by
          show yp_ss (yp_pk T len p) < 4
          rw [pk]
          unfold yp_ss
          rw [if_neg h42, if_neg h47, if_neg h37]
          (repeat' split) <;> decide)
      · show zh_ok (zm_LawReader_readTerm_l0_b rc o len T (zm_LawReader_readTerm_l0 rc o len T n) 0 p c.1 c.2.1 c.2.2) _
        unfold zm_LawReader_readTerm_l0_b
        rw [if_pos rfl, if_neg hp]
        exact zh_ret (yp_E_N hs fun _ => by
          show yp_ss (yp_pk T len p) < 4
          unfold yp_pk
          rw [if_neg hp]; decide)
    · rw [yr_term_f hf]
      exact zh_ret (yp_E_N hs fun h => absurd h hf)
theorem yr_term (hl : len ≤ 200) (ho : o ≤ 6) (hF : yr_is (fun p c => rc 2 o 0 p len c.1 T c.2.1 c.2.2) T len o (13 - 2 * o) yp_al yp_any) : yr_is (fun p c => zm_LawReader_readTerm rc o 0 p len c.1 T c.2.1 c.2.2) T len o (14 - 2 * o) yp_tm yp_nom := by
  intro p c p1 p2 c1 c2
  show zh_ok (zm_LawReader_readTerm rc o 0 p len c.1 T c.2.1 c.2.2) _
  unfold zm_LawReader_readTerm
  refine zh_bind (hF p c p1 p2 c1 c2) fun r hr => ?_
  refine zh_bind (yr_term_l hl ho hF c2 c1 (len - r.2.1).toNat r.1 r.2.1 r.2.2 zi_fu (by omega) (by have := hr.1.1; have : 1000 < zi_fu := (by decide); omega) (yp_E_W hr (by omega) fun _ _ => trivial)) fun q hq => zh_ret hq
/-! sums -/
theorem yr_sum_f {n : Nat} {f p c : Int} {K V : Int → Int} (hf : f ≠ 0) : zm_LawReader_readSum_l0 rc o len T (n + 1) f p c K V = some (f, p, c, K, V) := by
  show zm_LawReader_readSum_l0_b rc o len T (zm_LawReader_readSum_l0 rc o len T n) f p c K V = _
  unfold zm_LawReader_readSum_l0_b
  rw [if_neg hf]
theorem yr_sum_l (hl : len ≤ 200) (ho : o ≤ 6) (hF : yr_is (fun p c => rc 1 o 0 p len c.1 T c.2.1 c.2.2) T len o (14 - 2 * o) yp_tm yp_nom) {p0 : Int} {c0 : zCD} (h0 : c0.1 ≤ p0) (h00 : 0 ≤ c0.1) : ∀ (m : Nat) (f p : Int) (c : zCD) (n : Nat), len - p ≤ m → m < n → yp_E T len o (15 - 2 * o) yp_ta yp_nom p0 c0 (f, p, c) →
    zh_ok (zm_LawReader_readSum_l0 rc o len T n f p c.1 c.2.1 c.2.2) (yp_E T len o (15 - 2 * o) yp_ta yp_nos p0 c0) := by
  intro m
  induction m with
  | zero =>
    intro f p c n hm hn hs
    obtain ⟨n, rfl⟩ : ∃ q, n = q + 1 := ⟨n - 1, by omega⟩
    by_cases hf : f = 0
    · show zh_ok (zm_LawReader_readSum_l0_b rc o len T (zm_LawReader_readSum_l0 rc o len T n) f p c.1 c.2.1 c.2.2) _
      unfold zm_LawReader_readSum_l0_b
      rw [if_pos hf, if_neg (by omega)]
      exact zh_ret (yp_E_N hs fun _ => by
        show yp_ss (yp_pk T len p) = -1
        unfold yp_pk
        rw [if_neg (by omega)]; decide)
    · rw [yr_sum_f hf]
      exact zh_ret (yp_E_N hs fun h => absurd h hf)
  | succ m ih =>
    intro f p c n hm hn hs
    obtain ⟨n, rfl⟩ : ∃ q, n = q + 1 := ⟨n - 1, by omega⟩
    by_cases hf : f = 0
    · subst hf
      by_cases hp : p < len
      · have p1 : 0 ≤ p := hs.1.1
        have c1 : 0 ≤ c.1 := hs.2.1.1
        have hN : yp_nom (yp_pk T len p) := (hs.2.2.1 rfl).2.2.2.2.2.1
        have cp : c.1 ≤ p := by
          obtain ⟨a1, a2, a3, -⟩ := hs.2.2.1 rfl
          have a1 : p0 < p := a1
          have a3 : c.1 - c0.1 ≤ p - p0 := a3
          omega
        have pk : yp_pk T len p = T p := if_pos hp
        show zh_ok (zm_LawReader_readSum_l0_b rc o len T (zm_LawReader_readSum_l0 rc o len T n) 0 p c.1 c.2.1 c.2.2) _
        unfold zm_LawReader_readSum_l0_b
        rw [if_pos rfl, if_pos hp, zl_ci p1 (by omega), zi_w_id (x := p + 1) (by omega) (by omega)]
        have step : ∀ s kk, 2 ≤ s → s ≤ 3 → kk = s + 3 → yp_ss (T p) = s → zh_ok ((rc 1 o 0 (p + 1) len c.1 T c.2.1 c.2.2).bind fun r7 => ((zf_Law_addStep kk 0 r7.2.2.1 r7.2.2.2.1 r7.2.2.2.2).bind fun r8 => (zm_LawReader_readSum_l0 rc o len T n r7.1 r7.2.1 r8.2.1 r8.2.2.1 r8.2.2.2))) (yp_E T len o (15 - 2 * o) yp_ta yp_nos p0 c0) := by
          intro s kk s1 s2 hk hss
          refine zh_bind (hF (p + 1) c (by omega) (by omega) c1 (by omega)) fun r hr => ?_
          obtain ⟨q1, q2⟩ := yp_E_step hl h0 hs hp hss (by omega) (by omega) hk hr (fun w hw => ⟨fun s' w' e => (by cases e; omega), by rw [decide_eq_true (by omega)]; exact yp_cl_a hw⟩) (fun w c' p' hN n => by rw [hk]; exact yp_S_add (by omega) hN) (by omega) (by omega)
          by_cases he : r.1 = 0
          · have hN2 := (hr.2.2.1 he).2.2.2.2.2.1
            obtain ⟨⟨b1, b2, b3⟩, q1⟩ := q1 he
            rw [ze_addStep b1 b2, zl_b, he]
            exact ih 0 r.2.1 (yp_em kk 0 r.2.2) n (by omega) (by omega) (yp_E_N q1 fun _ => hN2)
          · obtain ⟨a, c', K', V', e1, e2, e3, -⟩ := ze_addStep_a (k := kk) (v := 0) (K := r.2.2.2.1) (V := r.2.2.2.2) hr.2.1.1 hr.2.1.2
            rw [e1, zl_b]
            obtain ⟨n, rfl⟩ : ∃ q, n = q + 1 := ⟨n - 1, by omega⟩
            rw [yr_sum_f he]
            exact zh_ret (yp_E_N (q2 he (c', K', V') e2 e3) fun h => absurd h he)
        by_cases h43 : T p = 43
        · rw [if_pos h43]
          exact step 2 5 (by decide) (by decide) rfl (by rw [h43]; rfl)
        rw [if_neg h43]
        by_cases h45 : T p = 45
        · rw [if_pos h45]
          exact step 3 6 (by decide) (by decide) rfl (by rw [h45]; rfl)
        rw [if_neg h45]
        exact zh_ret (yp_E_N hs fun _ => by
          show yp_ss (yp_pk T len p) = -1
          have hN : yp_ss (yp_pk T len p) < 4 := hN
          rw [pk] at hN ⊢
          unfold yp_ss at hN ⊢
          rw [if_neg h43, if_neg h45] at hN ⊢
          split
          · rename_i h; rw [if_pos h] at hN; exact absurd hN (by decide)
          · rename_i h; rw [if_neg h] at hN
            split
            · rename_i h; rw [if_pos h] at hN; exact absurd hN (by decide)
            · rename_i h; rw [if_neg h] at hN
              split
              · rename_i h; rw [if_pos h] at hN; exact absurd hN (by decide)
              · rfl)
      · show zh_ok (zm_LawReader_readSum_l0_b rc o len T (zm_LawReader_readSum_l0 rc o len T n) 0 p c.1 c.2.1 c.2.2) _
        unfold zm_LawReader_readSum_l0_b
        rw [if_pos rfl, if_neg hp]
        exact zh_ret (yp_E_N hs fun _ => by
          show yp_ss (yp_pk T len p) = -1
          unfold yp_pk
          rw [if_neg hp]; decide)
    · rw [yr_sum_f hf]
      exact zh_ret (yp_E_N hs fun h => absurd h hf)
theorem yr_sum (hl : len ≤ 200) (ho : o ≤ 6) (hF : yr_is (fun p c => rc 1 o 0 p len c.1 T c.2.1 c.2.2) T len o (14 - 2 * o) yp_tm yp_nom) : yr_is (fun p c => zm_LawReader_readSum rc o 0 p len c.1 T c.2.1 c.2.2) T len o (15 - 2 * o) yp_ta yp_nos := by
  intro p c p1 p2 c1 c2
  show zh_ok (zm_LawReader_readSum rc o 0 p len c.1 T c.2.1 c.2.2) _
  unfold zm_LawReader_readSum
  refine zh_bind (hF p c p1 p2 c1 c2) fun r hr => ?_
  refine zh_bind (yr_sum_l hl ho hF c2 c1 (len - r.2.1).toNat r.1 r.2.1 r.2.2 zi_fu (by omega) (by have := hr.1.1; have : 1000 < zi_fu := (by decide); omega) (yp_E_W hr (by omega) fun w hw s w' e => by have := hw s w' e; omega)) fun q hq => zh_ret hq
/-! a factor -/
theorem yr_fact (hl : len ≤ 200) (ho : o ≤ 6) (oo : 0 ≤ o) (hT : ∀ j, 0 ≤ j → j < 220 → 0 ≤ T j ∧ T j ≤ 255) (hS : o < 6 → yr_is (fun p c => rc 0 (o + 1) 0 p len c.1 T c.2.1 c.2.2) T len (o + 1) (15 - 2 * (o + 1)) yp_ta yp_nos) : yr_is (fun p c => zm_LawReader_readFactor rc o 0 p len c.1 T c.2.1 c.2.2) T len o (13 - 2 * o) yp_al yp_any := by
  intro p c p1 p2 c1 c2
  show zh_ok (zm_LawReader_readFactor rc o 0 p len c.1 T c.2.1 c.2.2) _
  unfold zm_LawReader_readFactor
  rw [if_pos rfl, ze_peek p1 (by omega), zl_b]
  by_cases h91 : yp_pk T len p = 91
  · have hp : p < len := yp_pk_lt (T := T) (by omega)
    rw [if_pos h91]
    by_cases ho6 : o < 6
    · rw [if_pos ho6, zi_w_id (x := o + 1) (by omega) (by omega), zi_w_id (x := p + 1) (by omega) (by omega)]
      refine zh_bind (hS ho6 (p + 1) c (by omega) (by omega) c1 (by omega)) fun r hr => ?_
      obtain ⟨⟨r1, r2⟩, ⟨r3, r4⟩, ro, rb⟩ := hr
      have one : ∀ w n, yp_S T len (n + 1) true w o p c = yp_S T len n true (14 :: w) (o + 1) (p + 1) c := fun w n => by
        rw [yp_S_t, if_pos h91, if_neg (by omega)]
      have ta : ∀ w, yp_ta (14 :: w) := fun w s w' e => by cases e; omega
      by_cases he : r.1 = 0
      · obtain ⟨b1, b2, b3, b4, ⟨ρ, b5⟩, b6, b7⟩ := ro he
        rw [he, ze_skip r1 (by omega) (by omega), zl_b]
        have b6 : yp_ss (yp_pk T len r.2.1) = -1 := b6
        by_cases h93 : yp_pk T len r.2.1 = 93
        · have hp3 : r.2.1 < len := yp_pk_lt (T := T) (by omega)
          rw [if_pos h93]
          refine zh_ret ⟨⟨?_, ?_⟩, ⟨r3, r4⟩, fun _ => ⟨?_, b2, ?_, b4, ⟨ρ, zd_seg_nd b5 (by omega)⟩, trivial, fun w _ => ?_⟩, fun h => absurd rfl h⟩
          · show 0 ≤ r.2.1 + 1; omega
          · show r.2.1 + 1 ≤ len; omega
          · show p < r.2.1 + 1; omega
          · show r.2.2.1 - c.1 ≤ r.2.1 + 1 - p; omega
          · obtain ⟨k, l, u⟩ := b7 (14 :: w) (ta w)
            refine ⟨1 + k + 1, by show ((1 + k + 1 : Nat) : Int) ≤ r.2.1 + 1 - p; omega, fun n => ?_⟩
            rw [show n + (1 + k + 1) = (n + 1 + k) + 1 by omega, one, u, yp_S_f, b6, if_neg (fun h => h rfl), if_pos (List.mem_cons_self), if_pos h93, yp_cl_a (ta w), show o + 1 - 1 = o by omega]
            rfl
        · rw [if_neg h93]
          refine zh_ret ⟨⟨r1, r2⟩, ⟨r3, r4⟩, fun h => ?_, fun _ w _ => ?_⟩
          · have h : -1000 - r.2.1 = 0 := h
            omega
          · obtain ⟨k, l, u⟩ := b7 (14 :: w) (ta w)
            refine ⟨1 + k, by omega, fun n => ?_⟩
            rw [show n + (1 + k) + 1 = (n + 1 + k) + 1 by omega, one, u, yp_S_f, b6, if_neg (fun h => h rfl), if_pos (List.mem_cons_self), if_neg h93]
      · rw [ze_skipf he, zl_b]
        refine zh_ret ⟨⟨r1, r2⟩, ⟨r3, r4⟩, fun h => absurd h he, fun _ w _ => ?_⟩
        obtain ⟨k, l, u⟩ := rb he (14 :: w) (ta w)
        refine ⟨1 + k, by omega, fun n => ?_⟩
        rw [show n + (1 + k) + 1 = (n + k + 1) + 1 by omega, one, u]
    · rw [if_neg ho6, ze_fail p1 (by omega) (by decide) (by decide), zl_b]
      refine zh_ret ⟨⟨p1, p2⟩, ⟨c1, (show c.1 ≤ 200 by omega)⟩, fun h => ?_, fun _ w _ => ⟨0, by omega, fun n => ?_⟩⟩
      · have h : -1000 * 5 - p = 0 := h
        omega
      · show yp_S T len (n + 1) true w o p c = some (.inl (-1000 * 5 - p))
        rw [yp_S_t, if_pos h91, if_pos (by omega)]
        rfl
  · rw [if_neg h91, ze_isDigit, zl_b]
    by_cases hd : yp_dg (yp_pk T len p) = true
    · rw [if_pos hd, if_neg (by decide)]
      have hdd := yp_dg_t.mp hd
      have hp : p < len := yp_pk_lt (T := T) (by omega)
      obtain ⟨a1, a2, a3, a4⟩ := yp_nm_in (T := T) (len := len) 5 0 p (by decide) (by decide) (by decide) p2
      have a5 := yp_nm_lt (T := T) (k := 4) hd (by decide) (by decide : (0 : Int) ≤ 0) (by decide)
      rw [ze_readNumber hl p1 p2 c1 (by omega), zl_b]
      have a5 : p < (yp_nm T len 5 0 p).2 := a5
      generalize hq : yp_nm T len 5 0 p = q at a1 a2 a3 a4 a5 ⊢
      by_cases h6 : yp_dg (yp_pk T len q.2) = true
      · rw [if_pos h6]
        refine zh_ret ⟨⟨?_, a4⟩, ⟨?_, ?_⟩, fun h => ?_, fun _ w _ => ⟨0, by omega, fun n => ?_⟩⟩
        · show 0 ≤ q.2; omega
        · show 0 ≤ c.1 + 1; omega
        · show c.1 + 1 ≤ 200; omega
        · have h : -2000 - q.2 = 0 := h
          omega
        · show yp_S T len (n + 1) true w o p c = some (.inl (-2000 - q.2))
          rw [yp_S_t, if_neg h91, if_pos hd, hq, if_pos h6]
      · rw [if_neg h6]
        refine zh_ret ⟨⟨?_, a4⟩, ⟨?_, ?_⟩, fun _ => ⟨a5, ?_, ?_, fun j hj => ⟨zv_up_n (by omega), zv_up_n (by omega)⟩, ⟨_, zd_seg_nd (zg_num (K := zv_up c.2.1 c.1 0) (V := zv_up c.2.2 c.1 q.1) c1 zv_up_s (by rw [zv_up_s]; omega) (by rw [zv_up_s]; omega)) (by omega)⟩, trivial, fun w _ => ⟨1, ?_, fun n => ?_⟩⟩, fun h => absurd rfl h⟩
        · show 0 ≤ q.2; omega
        · show 0 ≤ c.1 + 1; omega
        · show c.1 + 1 ≤ 200; omega
        · show c.1 < c.1 + 1; omega
        · show c.1 + 1 - c.1 ≤ q.2 - p; omega
        · show ((1 : Nat) : Int) ≤ q.2 - p; omega
        · rw [yp_S_t, if_neg h91, if_pos hd, hq, if_neg h6]
          rfl
    · rw [if_neg hd, if_pos rfl]
      by_cases hm : yp_pk T len p = -1
      · rw [if_pos hm, ze_fail p1 (by omega) (by decide) (by decide), zl_b]
        refine zh_ret ⟨⟨p1, p2⟩, ⟨c1, (show c.1 ≤ 200 by omega)⟩, fun h => ?_, fun _ w _ => ⟨0, by omega, fun n => ?_⟩⟩
        · have h : -1000 * 1 - p = 0 := h
          omega
        · show yp_S T len (n + 1) true w o p c = some (.inl (-1000 * 1 - p))
          rw [yp_S_t, if_neg h91, if_neg hd, hm, if_pos (by decide)]
          rfl
      · have hp : p < len := yp_pk_lt hm
        have pk : yp_pk T len p = T p := if_pos hp
        have hTp := hT p p1 (by omega)
        rw [if_neg hm, ze_letter (by omega) (by omega)]
        by_cases hl1 : yp_lt (yp_pk T len p) = -1
        · rw [if_pos hl1, ze_fail p1 (by omega) (by decide) (by decide), zl_b]
          refine zh_ret ⟨⟨p1, p2⟩, ⟨c1, (show c.1 ≤ 200 by omega)⟩, fun h => ?_, fun _ w _ => ⟨0, by omega, fun n => ?_⟩⟩
          · have h : -1000 * 1 - p = 0 := h
            omega
          · show yp_S T len (n + 1) true w o p c = some (.inl (-1000 * 1 - p))
            rw [yp_S_t, if_neg h91, if_neg hd, if_pos hl1]
            rfl
        · have hli : 0 ≤ yp_lt (yp_pk T len p) ∧ yp_lt (yp_pk T len p) < 13 := (yp_lt_in _).resolve_left hl1
          rw [if_neg hl1, ze_addStep c1 (by omega), zl_b, zi_w_id (x := p + 1) (by omega) (by omega)]
          refine zh_ret ⟨⟨?_, ?_⟩, ⟨?_, ?_⟩, fun _ => ⟨?_, ?_, ?_, fun j hj => ⟨zv_up_n (by omega), zv_up_n (by omega)⟩, ⟨_, zd_seg_nd (zg_let (K := zv_up c.2.1 c.1 1) (V := zv_up c.2.2 c.1 (yp_lt (yp_pk T len p))) c1 zv_up_s (by rw [zv_up_s]; omega) (by rw [zv_up_s]; omega)) (by omega)⟩, trivial, fun w _ => ⟨1, ?_, fun n => ?_⟩⟩, fun h => absurd rfl h⟩
          · show 0 ≤ p + 1; omega
          · show p + 1 ≤ len; omega
          · show 0 ≤ c.1 + 1; omega
          · show c.1 + 1 ≤ 200; omega
          · show p < p + 1; omega
          · show c.1 < c.1 + 1; omega
          · show c.1 + 1 - c.1 ≤ p + 1 - p; omega
          · show ((1 : Nat) : Int) ≤ p + 1 - p; omega
          · rw [yp_S_t, if_neg h91, if_neg hd, if_neg hl1]
            rfl
end ZRT
/-- the whole family, by how many are left -/
theorem yr_all {T : Int → Int} {len : Int} (hl : len ≤ 200) (hT : ∀ j, 0 ≤ j → j < 220 → 0 ≤ T j ∧ T j ≤ 255) : ∀ (d : Nat) (o : Int), o + d = 6 → 0 ≤ o → ∀ n, yr_is (fun p c => zg_LawReader_readSum (n + 3 * d + 3) 0 o 0 p len c.1 T c.2.1 c.2.2) T len o (15 - 2 * o) yp_ta yp_nos := by
  intro d
  induction d with
  | zero =>
    intro o ho oo n
    refine yr_sum (rc := zg_LawReader_readSum (n + 2)) hl (by omega) ?_
    refine yr_term (rc := zg_LawReader_readSum (n + 1)) hl (by omega) ?_
    exact yr_fact (rc := zg_LawReader_readSum n) hl (by omega) oo hT fun h => absurd h (by omega)
  | succ d ih =>
    intro o ho oo n
    refine yr_sum (rc := zg_LawReader_readSum (n + 3 * (d + 1) + 2)) hl (by omega) ?_
    refine yr_term (rc := zg_LawReader_readSum (n + 3 * (d + 1) + 1)) hl (by omega) ?_
    refine yr_fact (rc := zg_LawReader_readSum (n + 3 * (d + 1))) hl (by omega) oo hT fun _ => ?_
    exact ih (o + 1) (by omega) (by omega) n
theorem yr_readSum {T : Int → Int} {len o : Int} (hl : len ≤ 200) (hT : ∀ j, 0 ≤ j → j < 220 → 0 ≤ T j ∧ T j ≤ 255) (o1 : 0 ≤ o) (o2 : o ≤ 6) : yr_is (fun p c => zf_LawReader_readSum o 0 p len c.1 T c.2.1 c.2.2) T len o (15 - 2 * o) yp_ta yp_nos := by
  have h := yr_all hl hT (6 - o).toNat o (by omega) o1 (27 - 3 * (6 - o).toNat)
  rw [show 27 - 3 * (6 - o).toNat + 3 * (6 - o).toNat + 3 = 30 by omega] at h
  exact h
end
