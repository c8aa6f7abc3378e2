/-! 71.count, 73.land, 74.ship, 75.star, 76.walk, 77.hour, 80a.run, 80b.seg, 80c.sum, 80d.sum2, 80e.cond, 80f.msum, 80g.mcond, 80g2.mcomp, 80h.mcond2, 80i.mcond3, 81a.clause, 81b.clause2, 81c.clause3, 81d.law, 81e.lawop, 82a.anyof, 82b.bits, 83a.sight -/
section
/-! Integer.bitCount counts the bits. -/
theorem zs_andsplit (k a m q M : Nat) (ha : a < 2 ^ k) (hm : m < 2 ^ k) : (a + 2 ^ k * q) &&& (m + 2 ^ k * M) = (a &&& m) + 2 ^ k * (q &&& M) := by
  have h1 : ∀ x y : Nat, x < 2 ^ k → ∀ i, (x + 2 ^ k * y).testBit i = if i < k then x.testBit i else y.testBit (i - k) := fun x y hx i => by
    rw [Nat.add_comm, Nat.testBit_two_pow_mul_add _ hx]
  have hl : a &&& m < 2 ^ k := Nat.lt_of_le_of_lt Nat.and_le_left ha
  refine Nat.eq_of_testBit_eq fun i => ?_
  rw [Nat.testBit_and, h1 _ _ ha, h1 _ _ hm, h1 _ _ hl, Nat.testBit_and, Nat.testBit_and]
  by_cases h : i < k
  · rw [if_pos h, if_pos h, if_pos h]
  · rw [if_neg h, if_neg h, if_neg h]
def zs_s1 (M n : Nat) : Nat := n - ((n / 2) &&& M)
def zs_s2 (M n : Nat) : Nat := (n &&& M) + ((n / 4) &&& M)
def zs_s3 (M n : Nat) : Nat := (n + n / 16) &&& M
theorem zs_s1_d : ∀ a, a < 256 → ∀ c, c < 2 → (a / 2 + 128 * c) &&& 85 = (a / 2) &&& 85 := by decide +kernel
theorem zs_s1_split {a r M : Nat} (ha : a < 256) : zs_s1 (85 + 256 * M) (a + 256 * r) = zs_s1 85 a + 256 * zs_s1 M r := by
  unfold zs_s1
  have e : (a + 256 * r) / 2 = (a / 2 + 128 * (r % 2)) + 2 ^ 8 * (r / 2) := by omega
  have l1 : (a / 2) &&& 85 ≤ a / 2 := Nat.and_le_left
  have l2 : (r / 2) &&& M ≤ r / 2 := Nat.and_le_left
  rw [e, zs_andsplit 8 _ 85 _ M (by omega) (by decide), zs_s1_d a ha _ (by omega)]
  omega
theorem zs_s2_d : ∀ a, a < 256 → ∀ c, c < 4 → (a / 4 + 64 * c) &&& 51 = (a / 4) &&& 51 := by decide +kernel
theorem zs_s2_split {a r M : Nat} (ha : a < 256) : zs_s2 (51 + 256 * M) (a + 256 * r) = zs_s2 51 a + 256 * zs_s2 M r := by
  unfold zs_s2
  have e : (a + 256 * r) / 4 = (a / 4 + 64 * (r % 4)) + 2 ^ 8 * (r / 4) := by omega
  have q := zs_andsplit 8 a 51 r M (by omega) (by decide)
  rw [e, zs_andsplit 8 (a / 4 + 64 * (r % 4)) 51 (r / 4) M (by omega) (by decide), zs_s2_d a ha _ (by omega)]
  rw [show a + 256 * r = a + 2 ^ 8 * r from rfl, show 51 + 256 * M = 51 + 2 ^ 8 * M from rfl, q]
  omega
theorem zs_s3_d : ∀ a, a < 69 → ∀ c, c < 5 → (a + a / 16 + 16 * c) &&& 15 = (a + a / 16) &&& 15 := by decide +kernel
theorem zs_s3_split {a r M : Nat} (ha : a < 69) (hr : r % 16 < 5) : zs_s3 (15 + 256 * M) (a + 256 * r) = zs_s3 15 a + 256 * zs_s3 M r := by
  unfold zs_s3
  have e : a + 256 * r + (a + 256 * r) / 16 = (a + a / 16 + 16 * (r % 16)) + 2 ^ 8 * (r + r / 16) := by omega
  rw [e, zs_andsplit 8 _ 15 _ M (by omega) (by decide), zs_s3_d a ha _ hr]
/-- of a byte -/
def zs_t (a : Nat) : Nat := zs_s3 15 (zs_s2 51 (zs_s1 85 a))
def zs_p (n : Nat) : Nat → Nat
  | 0 => 0
  | k + 1 => zs_p n k + n / 2 ^ k % 2
theorem zs_t_d : ∀ a, a < 256 → zs_t a = zs_p a 8 ∧ zs_t a ≤ 8 ∧ zs_s1 85 a < 256 ∧ zs_s2 51 (zs_s1 85 a) < 69 ∧ zs_s2 51 (zs_s1 85 a) % 16 < 5 := by decide +kernel
theorem zs_t_c : ∀ a, a < 256 → zs_s1 21845 a = zs_s1 85 a ∧ zs_s1 5592405 a = zs_s1 85 a ∧ zs_s2 13107 (zs_s1 85 a) = zs_s2 51 (zs_s1 85 a) ∧ zs_s3 3855 (zs_s2 51 (zs_s1 85 a)) = zs_t a := by decide +kernel
/-- the whole, in bytes -/
theorem zs_pop {a b c : Nat} (ha : a < 256) (hb : b < 256) (hc : c < 256) : zs_s3 252645135 (zs_s2 858993459 (zs_s1 1431655765 (a + 256 * (b + 256 * c)))) = zs_t a + 256 * (zs_t b + 256 * zs_t c) := by
  obtain ⟨a1, a2, a3, a4, a5⟩ := zs_t_d a ha
  obtain ⟨b1, b2, b3, b4, b5⟩ := zs_t_d b hb
  obtain ⟨c1, c2, c3, c4, c5⟩ := zs_t_d c hc
  obtain ⟨d1, d2, d3, d4⟩ := zs_t_c c hc
  have e1 : zs_s1 1431655765 (a + 256 * (b + 256 * c)) = zs_s1 85 a + 256 * (zs_s1 85 b + 256 * zs_s1 85 c) := by
    rw [show 1431655765 = 85 + 256 * (85 + 256 * 21845) from rfl, zs_s1_split ha, zs_s1_split hb, d1]
  have e2 : zs_s2 858993459 (zs_s1 85 a + 256 * (zs_s1 85 b + 256 * zs_s1 85 c)) = zs_s2 51 (zs_s1 85 a) + 256 * (zs_s2 51 (zs_s1 85 b) + 256 * zs_s2 51 (zs_s1 85 c)) := by
    rw [show 858993459 = 51 + 256 * (51 + 256 * 13107) from rfl, zs_s2_split a3, zs_s2_split b3, d3]
  rw [e1, e2, show 252645135 = 15 + 256 * (15 + 256 * 3855) from rfl, zs_s3_split a4 (by omega), zs_s3_split b4 (by omega), d4]
  rfl
theorem zs_p24 {a b c : Nat} (ha : a < 256) (hb : b < 256) (hc : c < 256) : zs_p (a + 256 * (b + 256 * c)) 24 = zs_p a 8 + zs_p b 8 + zs_p c 8 := by
  simp only [zs_p]
  have h : ∀ n : Nat, n < 8 → (a + 256 * (b + 256 * c)) / 2 ^ n % 2 = a / 2 ^ n % 2 := by
    intro n hn
    have : n = 0 ∨ n = 1 ∨ n = 2 ∨ n = 3 ∨ n = 4 ∨ n = 5 ∨ n = 6 ∨ n = 7 := by omega
    rcases this with rfl | rfl | rfl | rfl | rfl | rfl | rfl | rfl <;> simp only [Nat.reducePow] <;> omega
  have h2 : ∀ n : Nat, n < 8 → (a + 256 * (b + 256 * c)) / 2 ^ (n + 8) % 2 = b / 2 ^ n % 2 := by
    intro n hn
    have : n = 0 ∨ n = 1 ∨ n = 2 ∨ n = 3 ∨ n = 4 ∨ n = 5 ∨ n = 6 ∨ n = 7 := by omega
    rcases this with rfl | rfl | rfl | rfl | rfl | rfl | rfl | rfl <;> simp only [Nat.reducePow, Nat.reduceAdd] <;> omega
  have h3 : ∀ n : Nat, n < 8 → (a + 256 * (b + 256 * c)) / 2 ^ (n + 16) % 2 = c / 2 ^ n % 2 := by
    intro n hn
    have : n = 0 ∨ n = 1 ∨ n = 2 ∨ n = 3 ∨ n = 4 ∨ n = 5 ∨ n = 6 ∨ n = 7 := by omega
    rcases this with rfl | rfl | rfl | rfl | rfl | rfl | rfl | rfl <;> simp only [Nat.reducePow, Nat.reduceAdd] <;> omega
  have g := fun n hn => h n hn
  rw [h 0 (by decide), h 1 (by decide), h 2 (by decide), h 3 (by decide), h 4 (by decide), h 5 (by decide), h 6 (by decide), h 7 (by decide)]
  rw [h2 0 (by decide), h2 1 (by decide), h2 2 (by decide), h2 3 (by decide), h2 4 (by decide), h2 5 (by decide), h2 6 (by decide), h2 7 (by decide)]
  rw [h3 0 (by decide), h3 1 (by decide), h3 2 (by decide), h3 3 (by decide), h3 4 (by decide), h3 5 (by decide), h3 6 (by decide), h3 7 (by decide)]
  omega
theorem zs_last {p q r u v : Nat} (hp : p ≤ 8) (hq : q ≤ 8) (hr : r ≤ 8) (hu : p + 256 * (q + 256 * r) = u) (hv : u + u / 256 = v) : (v + v / 65536) % 64 = p + q + r := by
  have v1 : u / 256 = q + 256 * r := by omega
  have v2 : v = p + q + 256 * (q + r) + 65536 * r := by omega
  have v3 : v / 65536 = r := by omega
  rw [v3, v2]
  have v4 : p + q + 256 * (q + r) + 65536 * r + r = p + q + r + 64 * (4 * (q + r) + 1024 * r) := by omega
  rw [v4, Nat.add_mul_mod_self_left]
  exact Nat.mod_eq_of_lt (by omega)
theorem zs_sum_p {t : Int} : ∀ n : Nat, zs_sum t n = (zs_p t.toNat n : Int)
  | 0 => rfl
  | n + 1 => by
    show zs_sum t n + (if zi_tb t (n : Int) = true then 1 else 0) = ((zs_p t.toNat n + t.toNat / 2 ^ n % 2 : Nat) : Int)
    rw [zs_sum_p n]
    unfold zi_tb
    rw [Int.toNat_natCast, Nat.testBit_eq_decide_div_mod_eq]
    have : t.toNat / 2 ^ n % 2 = 0 ∨ t.toNat / 2 ^ n % 2 = 1 := by omega
    rcases this with e | e <;> rw [e] <;> simp
theorem zi_ush_eq {a k : Int} (h1 : 0 ≤ a) (h2 : a ≤ 2147483647) (k1 : 0 ≤ k) (k2 : k < 32) : zi_ush a k = zi_shr a k := by
  have h := z_ushr_ok (a := (a, a)) (b := (k, k)) (x := Int32.ofInt a) (y := Int32.ofInt k) (by rw [z_in, zi_of (by omega) h2]; exact ⟨Int.le_refl _, Int.le_refl _⟩) (by rw [z_in, zi_of (by omega) (by omega)]; exact ⟨Int.le_refl _, Int.le_refl _⟩)
  have e : z_ushr (a, a) (k, k) = (a / ((2 ^ k.toNat : Nat) : Int), a / ((2 ^ k.toNat : Nat) : Int)) := by
    unfold z_ushr z_shr
    rw [if_pos h1, if_pos ⟨k1, k2⟩, if_pos h1]
  rw [e] at h
  have h : a / ((2 ^ k.toNat : Nat) : Int) ≤ zi_ush a k ∧ zi_ush a k ≤ a / ((2 ^ k.toNat : Nat) : Int) := h
  rw [zi_shr_eq (by omega) h2 k1 k2]
  omega
theorem zi_shr_nat {a : Nat} {k : Nat} (h : a ≤ 2147483647) (hk : k < 32) : zi_ush (a : Int) (k : Int) = ((a / 2 ^ k : Nat) : Int) := by
  rw [zi_ush_eq (by omega) (by omega) (by omega) (by omega), zi_shr_eq (by omega) (by omega) (by omega) (by omega), Int.toNat_natCast, Int.natCast_ediv]
theorem zi_and_n {a b : Nat} (h : a ≤ 2147483647) (hk : b ≤ 2147483647) : zi_and (a : Int) (b : Int) = ((a &&& b : Nat) : Int) := by
  rw [zi_and_nat (by omega) (by omega) (by omega) (by omega), Int.toNat_natCast, Int.toNat_natCast]
theorem zi_w_n {a : Nat} (h : a ≤ 2147483647) : zi_w (a : Int) = (a : Int) := zi_w_id (by omega) (by omega)
theorem ze_bitCount {x : Int} (h1 : 0 ≤ x) (h2 : x < 16777216) : zf_Integer_bitCount x = some (zs_sum x 24) := by
  obtain ⟨n, rfl⟩ : ∃ n : Nat, x = n := ⟨x.toNat, by omega⟩
  rw [zs_sum_p, Int.toNat_natCast]
  obtain ⟨a, b, c, ha, hb, hc, e⟩ : ∃ a b c : Nat, a < 256 ∧ b < 256 ∧ c < 256 ∧ n = a + 256 * (b + 256 * c) := ⟨n % 256, n / 256 % 256, n / 65536, by omega, by omega, by omega, by omega⟩
  obtain ⟨a1, a2, -⟩ := zs_t_d a ha
  obtain ⟨b1, b2, -⟩ := zs_t_d b hb
  obtain ⟨c1, c2, -⟩ := zs_t_d c hc
  have hp := zs_pop ha hb hc
  rw [← e] at hp
  unfold zf_Integer_bitCount zi_let
  have l1 : (n / 2) &&& 1431655765 ≤ n / 2 := Nat.and_le_left
  have s1 : zi_w ((n : Int) - zi_and (zi_ush (n : Int) 1) 1431655765) = ((zs_s1 1431655765 n : Nat) : Int) := by
    rw [show (1 : Int) = ((1 : Nat) : Int) from rfl, zi_shr_nat (by omega) (by decide), show (2 : Nat) ^ 1 = 2 from rfl, show (1431655765 : Int) = ((1431655765 : Nat) : Int) from rfl, zi_and_n (by omega) (by decide)]
    unfold zs_s1
    rw [zi_w_id (by omega) (by omega)]
    omega
  have q1 : zs_s1 1431655765 n ≤ n := by unfold zs_s1; omega
  generalize hy : zs_s1 1431655765 n = y at *
  have l2 : y &&& 858993459 ≤ y := Nat.and_le_left
  have l3 : (y / 4) &&& 858993459 ≤ y / 4 := Nat.and_le_left
  have s2 : zi_w (zi_and (y : Int) 858993459 + zi_and (zi_ush (y : Int) 2) 858993459) = ((zs_s2 858993459 y : Nat) : Int) := by
    rw [show (2 : Int) = ((2 : Nat) : Int) from rfl, zi_shr_nat (by omega) (by decide), show (2 : Nat) ^ 2 = 4 from rfl, show (858993459 : Int) = ((858993459 : Nat) : Int) from rfl, zi_and_n (by omega) (by decide), zi_and_n (by omega) (by decide)]
    unfold zs_s2
    rw [zi_w_id (by omega) (by omega)]
    omega
  have q2 : zs_s2 858993459 y ≤ 33554432 := by unfold zs_s2; omega
  rw [s1, s2]
  dsimp only
  generalize hz : zs_s2 858993459 y = z at *
  have s3 : zi_and (zi_w ((z : Int) + zi_ush (z : Int) 4)) 252645135 = ((zs_s3 252645135 z : Nat) : Int) := by
    rw [show (4 : Int) = ((4 : Nat) : Int) from rfl, zi_shr_nat (by omega) (by decide), show ((z : Int) + ((z / 2 ^ 4 : Nat) : Int)) = ((z + z / 16 : Nat) : Int) by omega, zi_w_n (by omega), show (252645135 : Int) = ((252645135 : Nat) : Int) from rfl, zi_and_n (by omega) (by decide)]
    rfl
  rw [s3, hp]
  generalize hu : zs_t a + 256 * (zs_t b + 256 * zs_t c) = u at *
  have s4 : zi_w ((u : Int) + zi_ush (u : Int) 8) = ((u + u / 256 : Nat) : Int) := by
    rw [show (8 : Int) = ((8 : Nat) : Int) from rfl, zi_shr_nat (by omega) (by decide), show ((u : Int) + ((u / 2 ^ 8 : Nat) : Int)) = ((u + u / 256 : Nat) : Int) by omega, zi_w_n (by omega)]
  rw [s4]
  generalize hv : u + u / 256 = v at *
  have s5 : zi_w ((v : Int) + zi_ush (v : Int) 16) = ((v + v / 65536 : Nat) : Int) := by
    rw [show (16 : Int) = ((16 : Nat) : Int) from rfl, zi_shr_nat (by omega) (by decide), show ((v : Int) + ((v / 2 ^ 16 : Nat) : Int)) = ((v + v / 65536 : Nat) : Int) by omega, zi_w_n (by omega)]
  rw [s5, show (63 : Int) = ((63 : Nat) : Int) from rfl, zi_and_n (by omega) (by decide), show (63 : Nat) = 2 ^ 6 - 1 from rfl, Nat.and_two_pow_sub_one_eq_mod]
  have hn := zs_p24 ha hb hc
  rw [← e] at hn
  rw [hn, ← a1, ← b1, ← c1, show (2 : Nat) ^ 6 = 64 from rfl, zs_last a2 b2 c2 hu hv]
end
section
/-! Land and ships: rows of bits against cells, ships' places; what land and ship do, on both sides. -/
theorem zl_b {α β : Type} {a : α} {f : α → Option β} : (some a).bind f = f a := rfl
theorem zl_c {α : Type} {b : Bool} {x : Option α} (h : b = true) : (cond b x none) = x := by rw [h]; rfl
/-- a row with one bit put -/
def zl_row (v x b : Int) : Int := if b = 0 then zi_and v (zi_xor (zi_shl 1 x) (-1)) else zi_or v (zi_shl 1 x)
theorem zl_row_tb {v x b j : Int} (h1 : 0 ≤ v) (h2 : v ≤ 16777215) (x1 : 0 ≤ x) (x2 : x < 24) (j1 : 0 ≤ j) (j2 : j < 24) : zi_tb (zl_row v x b) j = if j = x then decide (b ≠ 0) else zi_tb v j := by
  unfold zl_row
  by_cases hb : b = 0
  · rw [if_pos hb, (zi_clr h1 (by omega) x1 (by omega)).2.2 j j1 (by omega)]
    by_cases e : j = x
    · rw [if_pos e, e]; simp [hb]
    · rw [if_neg e, decide_eq_true e, Bool.and_true]
  · rw [if_neg hb, zi_set_tb h1 (by omega) x1 (by omega) j j1]
    by_cases e : j = x
    · rw [if_pos e, e]; simp [hb]
    · rw [if_neg e, decide_eq_false e, Bool.or_false]
theorem zl_row_in {v x b : Int} (h1 : 0 ≤ v) (h2 : v ≤ 16777215) (x1 : 0 ≤ x) (x2 : x < 24) : 0 ≤ zl_row v x b ∧ zl_row v x b ≤ 16777215 := by
  unfold zl_row
  split
  · have := zi_clr h1 (by omega : v ≤ 2147483647) x1 (by omega : x < 31)
    omega
  · rw [zi_set h1 (by omega) x1 (by omega)]
    have hx : 2 ^ x.toNat < 2 ^ 24 := Nat.pow_lt_pow_right (by decide) (by omega)
    have := Nat.or_lt_two_pow (n := 24) (show v.toNat < 2 ^ 24 by omega) hx
    omega
/-- a ship that is told stands there, from one on -/
def zl_from (t : Int) (g : Int → Int) (p k : Int) : Prop := ∃ s : Int, k ≤ s ∧ s < 6 ∧ zi_tb t s = true ∧ g s = p
theorem zl_from_s {t p k : Int} {g : Int → Int} (h : ¬ (zi_tb t k = true ∧ g k = p)) : zl_from t g p k ↔ zl_from t g p (k + 1) :=
  ⟨fun ⟨s, a, b, c, d⟩ => ⟨s, (by
    by_cases e : s = k
    · subst e; exact absurd ⟨c, d⟩ h
    · omega), b, c, d⟩, fun ⟨s, a, b, c, d⟩ => ⟨s, by omega, b, c, d⟩⟩
theorem ze_hasShipAt_l0 {t p : Int} {g : Int → Int} (h1 : 0 ≤ t) (h2 : t ≤ 2147483647) : ∀ (m k n : Nat), k + m = 6 → m < n → (zl_from t g p k → zf_Sea_hasShipAt_l0 p t g n (k : Int) = some (.inr 1)) ∧ (¬ zl_from t g p k → zf_Sea_hasShipAt_l0 p t g n (k : Int) = some (.inl ())) := by
  intro m
  induction m with
  | zero =>
    intro k n e hn
    obtain ⟨n, rfl⟩ : ∃ q, n = q + 1 := ⟨n - 1, by omega⟩
    have hno : ¬ zl_from t g p k := fun ⟨s, a, b, _⟩ => by omega
    refine ⟨fun h => absurd h hno, fun _ => ?_⟩
    show zf_Sea_hasShipAt_l0_b p t g (zf_Sea_hasShipAt_l0 p t g n) (k : Int) = _
    unfold zf_Sea_hasShipAt_l0_b
    rw [if_neg (by omega)]
  | succ m ih =>
    intro k n e hn
    obtain ⟨n, rfl⟩ : ∃ q, n = q + 1 := ⟨n - 1, by omega⟩
    have hi := ih (k + 1) n (by omega) (by omega)
    rw [show ((k + 1 : Nat) : Int) = (k : Int) + 1 by omega] at hi
    show (zl_from t g p k → zf_Sea_hasShipAt_l0_b p t g (zf_Sea_hasShipAt_l0 p t g n) (k : Int) = _) ∧ (¬ zl_from t g p k → zf_Sea_hasShipAt_l0_b p t g (zf_Sea_hasShipAt_l0 p t g n) (k : Int) = _)
    unfold zf_Sea_hasShipAt_l0_b
    rw [if_pos (by omega), ze_Sea_hasShip h1 h2, zl_b, zi_w_id (x := (k : Int) + 1) (by omega) (by omega), zl_c (zi_ix_of (by omega) (by omega))]
    by_cases hb : zi_tb t (k : Int) = true
    · rw [show zs_has 6 t (k : Int) = 1 from if_pos ⟨by omega, by omega, hb⟩, if_neg (by decide)]
      by_cases hp : g (k : Int) = p
      · rw [if_pos hp]
        exact ⟨fun _ => rfl, fun h => absurd ⟨(k : Int), Int.le_refl _, by omega, hb, hp⟩ h⟩
      · rw [if_neg hp, zl_from_s (fun h => hp h.2)]
        exact hi
    · rw [show zs_has 6 t (k : Int) = 0 from if_neg (fun h => hb h.2.2), if_pos rfl, zl_from_s (fun h => hb h.1)]
      exact hi
theorem ze_hasShipAt {t p : Int} {g : Int → Int} (h1 : 0 ≤ t) (h2 : t ≤ 2147483647) : (zl_from t g p 0 → zf_Sea_hasShipAt p t g = some 1) ∧ (¬ zl_from t g p 0 → zf_Sea_hasShipAt p t g = some 0) := by
  have h := ze_hasShipAt_l0 (p := p) (g := g) h1 h2 6 0 zi_fu rfl (by decide)
  unfold zf_Sea_hasShipAt
  exact ⟨fun k => by rw [show zf_Sea_hasShipAt_l0 p t g zi_fu 0 = _ from h.1 k]; rfl, fun k => by rw [show zf_Sea_hasShipAt_l0 p t g zi_fu 0 = _ from h.2 k]; rfl⟩
theorem ze_M_land_l0 {x y : Int} {g : Int → Int} (h1 : 0 ≤ g 127) (h2 : g 127 ≤ 2147483647) (x1 : 0 ≤ x) (x2 : x < 24) (y1 : 0 ≤ y) (y2 : y < 12) : ∀ (m k n : Nat), k + m = 6 → m < n → (zl_from (g 127) (fun s => g (120 + s)) (24 * y + x) k → zf_M_land_l0 x y g n (k : Int) = some (.inr (0, g))) ∧ (¬ zl_from (g 127) (fun s => g (120 + s)) (24 * y + x) k → zf_M_land_l0 x y g n (k : Int) = some (.inl ())) := by
  intro m
  induction m with
  | zero =>
    intro k n e hn
    obtain ⟨n, rfl⟩ : ∃ q, n = q + 1 := ⟨n - 1, by omega⟩
    have hno : ¬ zl_from (g 127) (fun s => g (120 + s)) (24 * y + x) k := fun ⟨s, a, b, _⟩ => by omega
    refine ⟨fun h => absurd h hno, fun _ => ?_⟩
    show zf_M_land_l0_b x y g (zf_M_land_l0 x y g n) (k : Int) = _
    unfold zf_M_land_l0_b
    rw [if_neg (by omega)]
  | succ m ih =>
    intro k n e hn
    obtain ⟨n, rfl⟩ : ∃ q, n = q + 1 := ⟨n - 1, by omega⟩
    have hi := ih (k + 1) n (by omega) (by omega)
    rw [show ((k + 1 : Nat) : Int) = (k : Int) + 1 by omega] at hi
    show (zl_from (g 127) (fun s => g (120 + s)) (24 * y + x) k → zf_M_land_l0_b x y g (zf_M_land_l0 x y g n) (k : Int) = _) ∧ (¬ zl_from (g 127) (fun s => g (120 + s)) (24 * y + x) k → zf_M_land_l0_b x y g (zf_M_land_l0 x y g n) (k : Int) = _)
    unfold zf_M_land_l0_b
    rw [if_pos (by omega), ze_M_isShip h1 h2, zl_b, zi_w_id (x := (k : Int) + 1) (by omega) (by omega), zi_w_id (x := 120 + (k : Int)) (by omega) (by omega), zi_w_id (x := 24 * y) (by omega) (by omega), zi_w_id (x := 24 * y + x) (by omega) (by omega), zl_c (zi_ix_of (by omega) (by omega))]
    by_cases hb : zi_tb (g 127) (k : Int) = true
    · rw [show zs_has 6 (g 127) (k : Int) = 1 from if_pos ⟨by omega, by omega, hb⟩, if_neg (by decide)]
      by_cases hp : g (120 + (k : Int)) = 24 * y + x
      · rw [if_pos hp]
        exact ⟨fun _ => rfl, fun h => absurd ⟨(k : Int), Int.le_refl _, by omega, hb, hp⟩ h⟩
      · rw [if_neg hp, zl_from_s (g := fun s => g (120 + s)) (fun h => hp h.2)]
        exact hi
    · rw [show zs_has 6 (g 127) (k : Int) = 0 from if_neg (fun h => hb h.2.2), if_pos rfl, zl_from_s (fun h => hb h.1)]
      exact hi
/-- class and reference: told ships, their places, the land -/
def zl_rel (t : Int) (gp gl m : Int → Int) : Prop := 0 ≤ t ∧ t ≤ 63 ∧ m 127 = t ∧ (∀ s, 0 ≤ s → s < 6 → m (120 + s) = gp s) ∧ (∀ y, 0 ≤ y → y < 12 → 0 ≤ gl y ∧ gl y ≤ 16777215) ∧
  ∀ x y, 0 ≤ x → x < 24 → 0 ≤ y → y < 12 → m (134 + (24 * y + x)) = if zi_tb (gl y) x = true then 1 else 0
theorem zl_from_eq {t p : Int} {gp gl m : Int → Int} (h : zl_rel t gp gl m) : zl_from (m 127) (fun s => m (120 + s)) p 0 ↔ zl_from t gp p 0 := by
  obtain ⟨-, -, e, hs, -⟩ := h
  rw [e]
  exact ⟨fun ⟨s, a, b, c, d⟩ => ⟨s, a, b, c, by rw [← hs s a b]; exact d⟩, fun ⟨s, a, b, c, d⟩ => ⟨s, a, b, c, (hs s a b).trans d⟩⟩
theorem ze_setLand {x y b : Int} {g : Int → Int} (y1 : 0 ≤ y) (y2 : y < 12) : zf_Sea_setLand x y b g = some (zv_up g y (zl_row (g y) x b)) := by
  unfold zf_Sea_setLand zl_row
  by_cases hb : b = 0
  · rw [if_pos hb, if_pos hb, zl_c (zi_ix_of y1 y2)]
  · rw [if_neg hb, if_neg hb, zl_c (zi_ix_of y1 y2)]
theorem zl_land {x y b t : Int} {gp gl m : Int → Int} (h : zl_rel t gp gl m) : ∃ a gl' m', zf_X_land x y b t gp gl = some (a, gl') ∧ zf_M_land x y b m = some (a, m') ∧ zl_rel t gp gl' m' ∧ (∀ j, j < 134 → m' j = m j) := by
  have hf := fun p => zl_from_eq (p := p) h
  obtain ⟨t1, t2, e, hs, hr, hl⟩ := id h
  unfold zf_X_land zf_M_land
  rw [ze_X_isPlace, ze_M_isPlace, zl_b, zl_b]
  by_cases hp : zs_pl x y = 0
  · rw [if_pos hp, if_pos hp]
    exact ⟨0, gl, m, rfl, rfl, h, fun _ _ => rfl⟩
  · rw [if_neg hp, if_neg hp]
    obtain ⟨x1, x2, y1, y2⟩ := zs_pl_ne hp
    rw [ze_X_placeOf x1 x2 y1 y2, zl_b]
    have hX := ze_hasShipAt (p := 24 * y + x) (g := gp) t1 (by omega)
    have hM := ze_M_land_l0 (x := x) (y := y) (g := m) (by omega) (by omega) x1 x2 y1 y2 6 0 zi_fu rfl (by decide)
    by_cases hc : zl_from t gp (24 * y + x) 0
    · rw [hX.1 hc, show zf_M_land_l0 x y m zi_fu 0 = _ from hM.1 ((hf _).mpr hc), zl_b, zl_b, if_neg (by decide)]
      exact ⟨0, gl, m, rfl, rfl, h, fun _ _ => rfl⟩
    · rw [hX.2 hc, show zf_M_land_l0 x y m zi_fu 0 = _ from hM.2 (fun k => hc ((hf _).mp k)), zl_b, zl_b, if_pos rfl, ze_setLand y1 y2, zl_b]
      refine ⟨1, _, zv_up m (134 + (24 * y + x)) (if b = 0 then 0 else 1), rfl, ?_, ⟨t1, t2, ?_, ?_, ?_, ?_⟩, ?_⟩
      · show (if b = 0 then _ else _) = _
        rw [zi_w_id (x := 24 * y) (by omega) (by omega), zi_w_id (x := 134 + 24 * y) (by omega) (by omega), zi_w_id (x := 134 + 24 * y + x) (by omega) (by omega), show 134 + 24 * y + x = 134 + (24 * y + x) by omega, zl_c (zi_ix_of (by omega) (by omega)), zl_c (zi_ix_of (by omega) (by omega))]
        by_cases hb : b = 0
        · rw [if_pos hb, if_pos hb]
        · rw [if_neg hb, if_neg hb]
      · rw [zv_up_n (by omega)]; exact e
      · intro s s1 s2
        rw [zv_up_n (by omega)]; exact hs s s1 s2
      · intro y' a1 a2
        by_cases ey : y' = y
        · rw [ey, zv_up_s]; exact zl_row_in (hr y y1 y2).1 (hr y y1 y2).2 x1 x2
        · rw [zv_up_n ey]; exact hr y' a1 a2
      · intro x' y' a1 a2 b1 b2
        by_cases ey : y' = y
        · subst ey
          rw [zv_up_s, zl_row_tb (hr y' y1 y2).1 (hr y' y1 y2).2 x1 x2 a1 a2]
          by_cases ex : x' = x
          · subst ex
            rw [zv_up_s, if_pos rfl]
            by_cases hb : b = 0
            · rw [if_pos hb]; simp [hb]
            · rw [if_neg hb]; simp [hb]
          · rw [zv_up_n (by omega), if_neg ex]; exact hl x' y' a1 a2 b1 b2
        · rw [zv_up_n ey, zv_up_n (by omega)]; exact hl x' y' a1 a2 b1 b2
      · intro j hj
        exact zv_up_n (by omega)
end
section
/-! What ship does, on both sides; what is land. -/
theorem ze_Sea_isLand {p : Int} {g : Int → Int} (h1 : 0 ≤ p) (h2 : p < 288) (hr : ∀ y, 0 ≤ y → y < 12 → 0 ≤ g y ∧ g y ≤ 16777215) : zf_Sea_isLand p g = some (if zi_tb (g (p / 24)) (p % 24) = true then 1 else 0) := by
  have hq := hr (p / 24) (by omega) (by omega)
  unfold zf_Sea_isLand
  rw [ze_X_rowOf h1 h2, zl_b, zl_c (zi_ix_of (by omega) (by omega)), ze_X_columnOf h1 h2, zl_b]
  obtain ⟨c1, c2⟩ := zs_b01 (t := g (p / 24)) (i := p % 24) hq.1 (by omega) (by omega) (by omega)
  by_cases c : zi_tb (g (p / 24)) (p % 24) = true
  · rw [c1 c, if_neg (by decide), if_pos c]
  · rw [c2 c, if_pos rfl, if_neg c]
theorem ze_M_isLand {p : Int} {m : Int → Int} (h1 : 0 ≤ p) (h2 : p < 288) : zf_M_isLand p m = some (if m (134 + p) = 1 then 1 else 0) := by
  unfold zf_M_isLand
  rw [zi_w_id (x := 134 + p) (by omega) (by omega), zl_c (zi_ix_of (by omega) (by omega))]
  by_cases c : m (134 + p) = 1
  · rw [if_pos c, if_pos c]
  · rw [if_neg c, if_neg c]
theorem zl_is {p t : Int} {gp gl m : Int → Int} (h : zl_rel t gp gl m) (h1 : 0 ≤ p) (h2 : p < 288) : zf_M_isLand p m = zf_Sea_isLand p gl := by
  obtain ⟨-, -, -, -, hr, hl⟩ := h
  rw [ze_M_isLand h1 h2, ze_Sea_isLand h1 h2 hr]
  have := hl (p % 24) (p / 24) (by omega) (by omega) (by omega) (by omega)
  rw [show 134 + (24 * (p / 24) + p % 24) = 134 + p by omega] at this
  rw [this]
  by_cases c : zi_tb (gl (p / 24)) (p % 24) = true
  · rw [if_pos c]; rfl
  · rw [if_neg c]; rfl
theorem zl_or_in {t i : Int} (h1 : 0 ≤ t) (h2 : t ≤ 63) (k1 : 0 ≤ i) (k2 : i < 6) : 0 ≤ zi_or t (zi_shl 1 i) ∧ zi_or t (zi_shl 1 i) ≤ 63 := by
  rw [zi_set h1 (by omega) k1 (by omega)]
  have hx : 2 ^ i.toNat < 2 ^ 6 := Nat.pow_lt_pow_right (by decide) (by omega)
  have := Nat.or_lt_two_pow (n := 6) (show t.toNat < 2 ^ 6 by omega) hx
  omega
theorem zl_ship {s x y t : Int} {gp gl m : Int → Int} (h : zl_rel t gp gl m) : ∃ a t' gp' m', zf_X_ship s x y t gl gp = some (a, t', gp') ∧ zf_M_ship s x y m = some (a, m') ∧ zl_rel t' gp' gl m' ∧ (∀ j, j < 120 → m' j = m j) ∧ ∀ j, 128 ≤ j → m' j = m j := by
  obtain ⟨t1, t2, e, hs, hr, hl⟩ := id h
  unfold zf_X_ship zf_M_ship
  rw [ze_X_isWithin, ze_M_in, zl_b, zl_b]
  by_cases hi : zs_in s 0 5 = 0
  · rw [if_pos hi, if_pos hi]
    exact ⟨0, t, gp, m, rfl, rfl, h, fun _ _ => rfl, fun _ _ => rfl⟩
  · rw [if_neg hi, if_neg hi]
    obtain ⟨s1, s2⟩ := zs_in_ne hi
    rw [ze_X_isPlace, ze_M_isPlace, zl_b, zl_b]
    by_cases hp : zs_pl x y = 0
    · rw [if_pos hp, if_pos hp]
      exact ⟨0, t, gp, m, rfl, rfl, h, fun _ _ => rfl, fun _ _ => rfl⟩
    · rw [if_neg hp, if_neg hp]
      obtain ⟨x1, x2, y1, y2⟩ := zs_pl_ne hp
      rw [ze_X_placeOf x1 x2 y1 y2, zl_b, zl_b, zi_w_id (x := 24 * y) (by omega) (by omega), zi_w_id (x := 24 * y + x) (by omega) (by omega), zl_is h (by omega) (by omega), ze_Sea_isLand (by omega) (by omega) hr, zl_b, zl_b]
      by_cases c : zi_tb (gl ((24 * y + x) / 24)) ((24 * y + x) % 24) = true
      · rw [if_pos c, if_neg (by decide), if_neg (by decide)]
        exact ⟨0, t, gp, m, rfl, rfl, h, fun _ _ => rfl, fun _ _ => rfl⟩
      · rw [if_neg c, if_pos rfl, if_pos rfl, zi_w_id (x := 120 + s) (by omega) (by omega), zl_c (zi_ix_of (by omega) (by omega)), zl_c (zi_ix_of (by omega) (by omega))]
        obtain ⟨o1, o2⟩ := zl_or_in t1 t2 s1 (by omega : s < 6)
        refine ⟨1, _, _, _, rfl, rfl, ⟨o1, o2, ?_, ?_, hr, ?_⟩, ?_, ?_⟩
        · rw [zv_up_n (by omega), zv_up_s, e]
        · intro k k1 k2
          by_cases ek : k = s
          · subst ek; rw [zv_up_s, zv_up_s]
          · rw [zv_up_n (by omega), zv_up_n (by omega), zv_up_n ek]; exact hs k k1 k2
        · intro x' y' a1 a2 b1 b2
          rw [zv_up_n (by omega), zv_up_n (by omega)]; exact hl x' y' a1 a2 b1 b2
        · intro j hj
          rw [zv_up_n (by omega), zv_up_n (by omega)]
        · intro j hj
          rw [zv_up_n (by omega), zv_up_n (by omega)]
end
section
/-! What star, walk and gone do, and what starIs answers, on both sides. -/
def zl_sky (t h : Int) (co ro br wc wr m : Int → Int) : Prop := (0 ≤ t ∧ t ≤ 16777215 ∧ m 126 = t) ∧ (0 ≤ h ∧ h ≤ 23 ∧ m 128 = h) ∧
  ∀ i, 0 ≤ i → i < 24 → (m i = co i ∧ m (24 + i) = ro i ∧ m (48 + i) = br i ∧ m (72 + i) = wc i ∧ m (96 + i) = wr i) ∧ (0 ≤ co i ∧ co i ≤ 23 ∧ 0 ≤ ro i ∧ ro i ≤ 11 ∧ 0 ≤ br i ∧ br i ≤ 9 ∧ -3 ≤ wc i ∧ wc i ≤ 3 ∧ -3 ≤ wr i ∧ wr i ≤ 3)
theorem zl_or24 {t i : Int} (h1 : 0 ≤ t) (h2 : t ≤ 16777215) (k1 : 0 ≤ i) (k2 : i < 24) : 0 ≤ zi_or t (zi_shl 1 i) ∧ zi_or t (zi_shl 1 i) ≤ 16777215 := zl_row_in (b := 1) h1 h2 k1 k2
theorem zl_star {i c r b t h : Int} {co ro br wc wr m : Int → Int} (hs : zl_sky t h co ro br wc wr m) : ∃ a t' co' ro' br' wc' wr' m', zf_X_star i c r b t co ro br wc wr = some (a, t', co', ro', br', wc', wr') ∧ zf_M_star i c r b m = some (a, m') ∧ zl_sky t' h co' ro' br' wc' wr' m' ∧ ∀ j, 126 < j → m' j = m j := by
  obtain ⟨⟨t1, t2, t3⟩, ⟨h1, h2, h3⟩, hr⟩ := id hs
  unfold zf_X_star zf_M_star
  rw [ze_X_isWithin, ze_M_in, zl_b, zl_b]
  by_cases q1 : zs_in i 0 23 = 0
  · rw [if_pos q1, if_pos q1]
    exact ⟨0, t, co, ro, br, wc, wr, m, rfl, rfl, hs, fun _ _ => rfl⟩
  rw [if_neg q1, if_neg q1, ze_X_isPlace, ze_M_isPlace, zl_b, zl_b]
  obtain ⟨i1, i2⟩ := zs_in_ne q1
  by_cases q2 : zs_pl c r = 0
  · rw [if_pos q2, if_pos q2]
    exact ⟨0, t, co, ro, br, wc, wr, m, rfl, rfl, hs, fun _ _ => rfl⟩
  rw [if_neg q2, if_neg q2, ze_X_isWithin, ze_M_in, zl_b, zl_b]
  obtain ⟨c1, c2, c3, c4⟩ := zs_pl_ne q2
  by_cases q3 : zs_in b 1 9 = 0
  · rw [if_pos q3, if_pos q3]
    exact ⟨0, t, co, ro, br, wc, wr, m, rfl, rfl, hs, fun _ _ => rfl⟩
  rw [if_neg q3, if_neg q3]
  obtain ⟨b1, b2⟩ := zs_in_ne q3
  rw [zi_w_id (x := 0 + i) (by omega) (by omega), zi_w_id (x := 24 + i) (by omega) (by omega), zi_w_id (x := 48 + i) (by omega) (by omega), zi_w_id (x := 72 + i) (by omega) (by omega), zi_w_id (x := 96 + i) (by omega) (by omega)]
  rw [zl_c (zi_ix_of (by omega) (by omega)), zl_c (zi_ix_of (by omega) (by omega)), zl_c (zi_ix_of (by omega) (by omega)), zl_c (zi_ix_of (by omega) (by omega)), zl_c (zi_ix_of (by omega) (by omega)), zl_c (zi_ix_of (by omega) (by omega))]
  obtain ⟨o1, o2⟩ := zl_or24 t1 t2 i1 (by omega : i < 24)
  refine ⟨1, _, _, _, _, _, _, _, rfl, rfl, ⟨⟨o1, o2, ?_⟩, ⟨h1, h2, ?_⟩, fun j j1 j2 => ?_⟩, fun j hj => ?_⟩
  · rw [zv_up_n (by omega), zv_up_n (by omega), zv_up_n (by omega), zv_up_n (by omega), zv_up_n (by omega), zv_up_s, t3]
  · rw [zv_up_n (by omega), zv_up_n (by omega), zv_up_n (by omega), zv_up_n (by omega), zv_up_n (by omega), zv_up_n (by omega)]; exact h3
  · have hj := hr j j1 j2
    unfold zv_up
    by_cases e : j = i
    · subst e
      refine ⟨⟨?_, ?_, ?_, ?_, ?_⟩, ?_⟩
      · rw [if_neg (by omega), if_neg (by omega), if_neg (by omega), if_neg (by omega), if_pos (by omega), if_pos rfl]
      · rw [if_neg (by omega), if_neg (by omega), if_neg (by omega), if_pos rfl, if_pos rfl]
      · rw [if_neg (by omega), if_neg (by omega), if_pos rfl, if_pos rfl]
      · rw [if_neg (by omega), if_pos rfl, if_pos rfl]
      · rw [if_pos rfl, if_pos rfl]
      · simp only [if_pos trivial]; omega
    · refine ⟨⟨?_, ?_, ?_, ?_, ?_⟩, ?_⟩
      · rw [if_neg (by omega), if_neg (by omega), if_neg (by omega), if_neg (by omega), if_neg (by omega), if_neg (by omega), if_neg e]; exact hj.1.1
      · rw [if_neg (by omega), if_neg (by omega), if_neg (by omega), if_neg (by omega), if_neg (by omega), if_neg (by omega), if_neg e]; exact hj.1.2.1
      · rw [if_neg (by omega), if_neg (by omega), if_neg (by omega), if_neg (by omega), if_neg (by omega), if_neg (by omega), if_neg e]; exact hj.1.2.2.1
      · rw [if_neg (by omega), if_neg (by omega), if_neg (by omega), if_neg (by omega), if_neg (by omega), if_neg (by omega), if_neg e]; exact hj.1.2.2.2.1
      · rw [if_neg (by omega), if_neg (by omega), if_neg (by omega), if_neg (by omega), if_neg (by omega), if_neg (by omega), if_neg e]; exact hj.1.2.2.2.2
      · simp only [if_neg e]; exact hj.2
  · rw [zv_up_n (by omega), zv_up_n (by omega), zv_up_n (by omega), zv_up_n (by omega), zv_up_n (by omega), zv_up_n (by omega)]
theorem zl_starIs {i k t h : Int} {co ro br wc wr m : Int → Int} (hs : zl_sky t h co ro br wc wr m) : ∃ a, zf_X_starIs i k t h co ro br wc wr = some a ∧ zf_M_starIs i k m = some a := by
  obtain ⟨⟨t1, t2, t3⟩, ⟨h1, h2, h3⟩, hr⟩ := hs
  unfold zf_X_starIs zf_M_starIs
  rw [ze_Sky_hasStar t1 (by omega), ze_M_isTold (by omega) (by omega), t3, zl_b, zl_b]
  by_cases q : zs_has 24 t i = 0
  · rw [if_pos q, if_pos q]; exact ⟨-1, rfl, rfl⟩
  rw [if_neg q, if_neg q]
  obtain ⟨i1, i2, -⟩ := zs_has_ne q
  obtain ⟨⟨a1, a2, a3, a4, a5⟩, b1, b2, b3, b4, b5, b6, b7, b8, b9, b10⟩ := hr i i1 i2
  rw [zi_w_id (x := 0 + i) (by omega) (by omega), zi_w_id (x := 24 + i) (by omega) (by omega), zi_w_id (x := 48 + i) (by omega) (by omega), zi_w_id (x := 72 + i) (by omega) (by omega), zi_w_id (x := 96 + i) (by omega) (by omega), show 0 + i = i by omega, a1, a2, a3, a4, a5]
  rw [ze_Sky_standing i1 i2 b1 b2 h1 h2, ze_M_standsAt i1 i2 (by omega) (by omega) (by omega) (by omega), a1, h3]
  rw [show zi_ix i 24 = true from zi_ix_of i1 (by omega), show zi_ix i 422 = true from zi_ix_of i1 (by omega), show zi_ix (24 + i) 422 = true from zi_ix_of (by omega) (by omega), show zi_ix (48 + i) 422 = true from zi_ix_of (by omega) (by omega), show zi_ix (72 + i) 422 = true from zi_ix_of (by omega) (by omega), show zi_ix (96 + i) 422 = true from zi_ix_of (by omega) (by omega)]
  repeat' split
  all_goals exact ⟨_, rfl, rfl⟩
end
section
/-! What gone and walk do, on both sides. -/
theorem zl_gone {i t h : Int} {co ro br wc wr m : Int → Int} (hs : zl_sky t h co ro br wc wr m) : ∃ a t' m', zf_X_gone i t = some (a, t') ∧ zf_M_gone i m = some (a, m') ∧ zl_sky t' h co ro br wc wr m' ∧ ∀ j, j ≠ 126 → m' j = m j := by
  obtain ⟨⟨t1, t2, t3⟩, ⟨h1, h2, h3⟩, hr⟩ := id hs
  unfold zf_X_gone zf_M_gone
  rw [ze_Sky_hasStar t1 (by omega), ze_M_isTold (by omega) (by omega), t3, zl_b, zl_b]
  by_cases q : zs_has 24 t i = 0
  · rw [if_pos q, if_pos q]
    exact ⟨0, t, m, rfl, rfl, hs, fun _ _ => rfl⟩
  rw [if_neg q, if_neg q]
  obtain ⟨i1, i2, -⟩ := zs_has_ne q
  obtain ⟨o1, o2, -⟩ := zi_clr t1 (by omega : t ≤ 2147483647) i1 (by omega : i < 31)
  refine ⟨1, _, _, rfl, rfl, ⟨⟨o1, by omega, zv_up_s⟩, ⟨h1, h2, ?_⟩, fun j j1 j2 => ?_⟩, fun j hj => zv_up_n hj⟩
  · rw [zv_up_n (by omega)]; exact h3
  · rw [zv_up_n (by omega), zv_up_n (by omega), zv_up_n (by omega), zv_up_n (by omega), zv_up_n (by omega)]
    exact hr j j1 j2
theorem zl_walk {i c r t h : Int} {co ro br wc wr m : Int → Int} (hs : zl_sky t h co ro br wc wr m) : ∃ a wc' wr' m', zf_X_walk i c r t wc wr = some (a, wc', wr') ∧ zf_M_walk i c r m = some (a, m') ∧ zl_sky t h co ro br wc' wr' m' ∧ ∀ j, 126 ≤ j → m' j = m j := by
  obtain ⟨⟨t1, t2, t3⟩, ⟨h1, h2, h3⟩, hr⟩ := id hs
  unfold zf_X_walk zf_M_walk
  rw [ze_Sky_hasStar t1 (by omega), ze_M_isTold (by omega) (by omega), t3, zl_b, zl_b]
  by_cases q : zs_has 24 t i = 0
  · rw [if_pos q, if_pos q]
    exact ⟨0, wc, wr, m, rfl, rfl, hs, fun _ _ => rfl⟩
  rw [if_neg q, if_neg q, ze_X_isWithin, ze_M_in, zl_b, zl_b]
  obtain ⟨i1, i2, -⟩ := zs_has_ne q
  by_cases q2 : zs_in c (-3) 3 = 0
  · rw [if_pos q2, if_pos q2]
    exact ⟨0, wc, wr, m, rfl, rfl, hs, fun _ _ => rfl⟩
  rw [if_neg q2, if_neg q2, ze_X_isWithin, ze_M_in, zl_b, zl_b]
  obtain ⟨c1, c2⟩ := zs_in_ne q2
  by_cases q3 : zs_in r (-3) 3 = 0
  · rw [if_pos q3, if_pos q3]
    exact ⟨0, wc, wr, m, rfl, rfl, hs, fun _ _ => rfl⟩
  rw [if_neg q3, if_neg q3]
  obtain ⟨r1, r2⟩ := zs_in_ne q3
  rw [zi_w_id (x := 72 + i) (by omega) (by omega), zi_w_id (x := 96 + i) (by omega) (by omega), zl_c (zi_ix_of (by omega) (by omega)), zl_c (zi_ix_of (by omega) (by omega)), zl_c (zi_ix_of (by omega) (by omega))]
  refine ⟨1, _, _, _, rfl, rfl, ⟨⟨t1, t2, ?_⟩, ⟨h1, h2, ?_⟩, fun j j1 j2 => ?_⟩, fun j hj => ?_⟩
  · rw [zv_up_n (by omega), zv_up_n (by omega)]; exact t3
  · rw [zv_up_n (by omega), zv_up_n (by omega)]; exact h3
  · have hj := hr j j1 j2
    rw [zv_up_n (i := j) (by omega), zv_up_n (i := j) (by omega), zv_up_n (i := 24 + j) (by omega), zv_up_n (i := 24 + j) (by omega), zv_up_n (i := 48 + j) (by omega), zv_up_n (i := 48 + j) (by omega)]
    refine ⟨⟨hj.1.1, hj.1.2.1, hj.1.2.2.1, ?_, ?_⟩, ?_⟩
    · unfold zv_up
      by_cases e : j = i
      · subst e; rw [if_neg (by omega), if_pos rfl, if_pos rfl]
      · rw [if_neg (by omega), if_neg (by omega), if_neg e]; exact hj.1.2.2.2.1
    · unfold zv_up
      by_cases e : j = i
      · subst e; rw [if_pos rfl, if_pos rfl]
      · rw [if_neg (by omega), if_neg (by omega), if_neg e]; exact hj.1.2.2.2.2
    · unfold zv_up
      by_cases e : j = i
      · simp only [if_pos e]; omega
      · simp only [if_neg e]; exact hj.2
  · rw [zv_up_n (by omega), zv_up_n (by omega)]
end
section
/-! What hour, clouds, sight and seed do, on both sides. -/
theorem zl_set1 {n lo hi v k : Int} {m : Int → Int} : ∃ a v' m', ((some (zs_in n lo hi)).bind fun r1 => if r1 = 0 then some ((0 : Int), v) else some (1, n)) = some (a, v') ∧ ((some (zs_in n lo hi)).bind fun r1 => if r1 = 0 then some ((0 : Int), m) else some (1, zv_up m k n)) = some (a, m') ∧ (m k = v → m' k = v') ∧ (∀ j, j ≠ k → m' j = m j) ∧ (v' = v ∨ (v' = n ∧ lo ≤ n ∧ n ≤ hi)) := by
  rw [zl_b, zl_b]
  by_cases q : zs_in n lo hi = 0
  · rw [if_pos q, if_pos q]
    exact ⟨0, v, m, rfl, rfl, fun h => h, fun _ _ => rfl, Or.inl rfl⟩
  · rw [if_neg q, if_neg q]
    exact ⟨1, n, _, rfl, rfl, fun _ => zv_up_s, fun j hj => zv_up_n hj, Or.inr ⟨rfl, zs_in_ne q⟩⟩
theorem zl_hour {n v : Int} {m : Int → Int} : ∃ a v' m', zf_X_hour n v = some (a, v') ∧ zf_M_hour n m = some (a, m') ∧ (m 128 = v → m' 128 = v') ∧ (∀ j, j ≠ 128 → m' j = m j) ∧ (v' = v ∨ (v' = n ∧ 0 ≤ n ∧ n ≤ 23)) := by
  unfold zf_X_hour zf_M_hour
  rw [ze_X_isWithin, ze_M_in]
  exact zl_set1
theorem zl_clouds {n v : Int} {m : Int → Int} : ∃ a v' m', zf_X_clouds n v = some (a, v') ∧ zf_M_clouds n m = some (a, m') ∧ (m 130 = v → m' 130 = v') ∧ (∀ j, j ≠ 130 → m' j = m j) ∧ (v' = v ∨ (v' = n ∧ 0 ≤ n ∧ n ≤ 16777215)) := by
  unfold zf_X_clouds zf_M_clouds
  rw [ze_X_isWithin, ze_M_in]
  exact zl_set1
theorem zl_seed {n v : Int} {m : Int → Int} : ∃ a v' m', zf_X_seed n v = some (a, v') ∧ zf_M_seed n m = some (a, m') ∧ (m 133 = v → m' 133 = v') ∧ (∀ j, j ≠ 133 → m' j = m j) ∧ (v' = v ∨ (v' = n ∧ 0 ≤ n ∧ n ≤ 65535)) := by
  unfold zf_X_seed zf_M_seed
  rw [ze_X_isWithin, ze_M_in]
  exact zl_set1
theorem zl_sight {n k v w : Int} {m : Int → Int} : ∃ a v' w' m', zf_X_sight n k v w = some (a, v', w') ∧ zf_M_sight n k m = some (a, m') ∧ (m 131 = v → m 132 = w → m' 131 = v' ∧ m' 132 = w') ∧ (∀ j, j ≠ 131 → j ≠ 132 → m' j = m j) ∧ ((v' = v ∧ w' = w) ∨ (v' = n ∧ w' = k ∧ 0 ≤ n ∧ n ≤ 11 ∧ 0 ≤ k ∧ k ≤ 11)) := by
  unfold zf_X_sight zf_M_sight
  rw [ze_X_isWithin, ze_M_in, zl_b, zl_b]
  by_cases q : zs_in n 0 11 = 0
  · rw [if_pos q, if_pos q]
    exact ⟨0, v, w, m, rfl, rfl, fun a b => ⟨a, b⟩, fun _ _ _ => rfl, Or.inl ⟨rfl, rfl⟩⟩
  rw [if_neg q, if_neg q, ze_X_isWithin, ze_M_in, zl_b, zl_b]
  obtain ⟨a1, a2⟩ := zs_in_ne q
  by_cases q2 : zs_in k 0 11 = 0
  · rw [if_pos q2, if_pos q2]
    exact ⟨0, v, w, m, rfl, rfl, fun a b => ⟨a, b⟩, fun _ _ _ => rfl, Or.inl ⟨rfl, rfl⟩⟩
  rw [if_neg q2, if_neg q2]
  obtain ⟨b1, b2⟩ := zs_in_ne q2
  exact ⟨1, n, k, _, rfl, rfl, fun _ _ => ⟨by rw [zv_up_n (by omega), zv_up_s], zv_up_s⟩, fun j h1 h2 => by rw [zv_up_n h2, zv_up_n h1], Or.inr ⟨rfl, rfl, a1, a2, b1, b2⟩⟩
end
section
/-! The machines that run a law, step by step, on both sides: what a run of steps leaves. -/
theorem zl_ci {α : Type} {a : Int} {n : Nat} {x : Option α} (h1 : 0 ≤ a) (h2 : a < n) : cond (zi_ix a n) x none = x := zl_c (zi_ix_of h1 h2)
theorem zl_cn {α : Type} {a : Int} {x : Option α} (h : a ≠ 0) : cond (zi_ne a) x none = x := zl_c (zi_ne_of h)
/-- what two numbers come to, by the class's kinds -/
def zd_bin (k x y : Int) : Int := if k = 5 then zi_w (x + y) else if k = 6 then zi_w (x - y) else if k = 7 then zi_w (x * y) else if k = 8 then zi_div x y else if k = 9 then zi_rem x y else if k = 10 then (if x < y then 1 else 0) else if k = 11 then (if y < x then 1 else 0) else (if x = y then 1 else 0)
section ZXRUN
variable {en f0 a t : Int} {K V lt S : Int → Int} {n : Nat}
theorem zx_end (h : en ≤ a) : zf_Law_run_l0 en f0 K V lt (n + 1) t a S = some (.inl (t, S)) := by
  show zf_Law_run_l0_b en f0 K V lt (zf_Law_run_l0 en f0 K V lt n) t a S = _
  unfold zf_Law_run_l0_b
  rw [if_neg (by omega)]
theorem zx_num (ha : 0 ≤ a) (hb : a < en) (he : en ≤ 200) (hK : K a = 0) (t1 : -1 ≤ t) (t2 : t + 1 < 40) : zf_Law_run_l0 en f0 K V lt (n + 1) t a S = zf_Law_run_l0 en f0 K V lt n (t + 1) (a + 1) (zv_up S (t + 1) (V a)) := by
  show zf_Law_run_l0_b en f0 K V lt (zf_Law_run_l0 en f0 K V lt n) t a S = _
  unfold zf_Law_run_l0_b
  rw [if_pos hb, zl_ci ha (by omega), if_neg (by omega), zi_w_id (x := t + 1) (by omega) (by omega), zi_w_id (x := a + 1) (by omega) (by omega), if_pos t2, if_pos hK, zl_ci (by omega) (by omega)]
theorem zx_let (ha : 0 ≤ a) (hb : a < en) (he : en ≤ 200) (hK : K a = 1) (v1 : 0 ≤ V a) (v2 : V a < 13) (t1 : -1 ≤ t) (t2 : t + 1 < 40) : zf_Law_run_l0 en f0 K V lt (n + 1) t a S = zf_Law_run_l0 en f0 K V lt n (t + 1) (a + 1) (zv_up S (t + 1) (lt (V a))) := by
  show zf_Law_run_l0_b en f0 K V lt (zf_Law_run_l0 en f0 K V lt n) t a S = _
  unfold zf_Law_run_l0_b
  rw [if_pos hb, zl_ci ha (by omega), if_neg (by omega), zi_w_id (x := t + 1) (by omega) (by omega), zi_w_id (x := a + 1) (by omega) (by omega), if_pos t2, if_neg (by omega), zl_ci v1 (by omega), zl_ci (by omega) (by omega)]
theorem zx_not (ha : 0 ≤ a) (hb : a < en) (he : en ≤ 200) (hK : K a = 2) (t1 : 0 ≤ t) (t2 : t < 40) : zf_Law_run_l0 en f0 K V lt (n + 1) t a S = zf_Law_run_l0 en f0 K V lt n t (a + 1) (zv_up S t (if S t = 0 then 1 else 0)) := by
  show zf_Law_run_l0_b en f0 K V lt (zf_Law_run_l0 en f0 K V lt n) t a S = _
  unfold zf_Law_run_l0_b
  rw [if_pos hb, zl_ci ha (by omega), if_pos (by omega), if_pos (by omega), if_neg (by omega), zl_ci t1 (by omega), if_pos hK, zi_w_id (x := a + 1) (by omega) (by omega)]
  by_cases h : S t = 0
  · rw [if_pos h, if_pos h]
  · rw [if_neg h, if_neg h]
theorem zx_jmp (ha : 0 ≤ a) (hb : a < en) (he : en ≤ 200) (hK : K a = 3 ∧ S t ≠ 0 ∨ K a = 4 ∧ S t = 0) (t1 : 0 ≤ t) (t2 : t < 40) (v1 : a < V a) (v2 : V a ≤ 200) : zf_Law_run_l0 en f0 K V lt (n + 1) t a S = zf_Law_run_l0 en f0 K V lt n t (V a) S := by
  show zf_Law_run_l0_b en f0 K V lt (zf_Law_run_l0 en f0 K V lt n) t a S = _
  unfold zf_Law_run_l0_b
  rw [if_pos hb, zl_ci ha (by omega), if_pos (by omega), if_pos (by omega), if_neg (by omega), zl_ci t1 (by omega), if_neg (by omega), zi_w_id (x := V a - 1) (by omega) (by omega), ze_Math_max, zl_b]
  have e : zi_w ((if a < V a - 1 then V a - 1 else a) + 1) = V a := by
    rw [zi_w_id (by split <;> omega) (by split <;> omega)]
    split <;> omega
  rw [e]
  rcases hK with ⟨h1, h2⟩ | ⟨h1, h2⟩
  · rw [if_neg h2, if_pos h1]
  · rw [if_pos h2, if_neg (by omega)]
theorem zx_thr (ha : 0 ≤ a) (hb : a < en) (he : en ≤ 200) (hK : K a = 3 ∧ S t = 0 ∨ K a = 4 ∧ S t ≠ 0) (t1 : 0 ≤ t) (t2 : t < 40) : zf_Law_run_l0 en f0 K V lt (n + 1) t a S = zf_Law_run_l0 en f0 K V lt n (t - 1) (a + 1) S := by
  show zf_Law_run_l0_b en f0 K V lt (zf_Law_run_l0 en f0 K V lt n) t a S = _
  unfold zf_Law_run_l0_b
  rw [if_pos hb, zl_ci ha (by omega), if_pos (by omega), if_pos (by omega), if_neg (by omega), zl_ci t1 (by omega), if_neg (by omega), zi_w_id (x := t + -1) (by omega) (by omega), zi_w_id (x := a + 1) (by omega) (by omega), show t + -1 = t - 1 by omega]
  rcases hK with ⟨h1, h2⟩ | ⟨h1, h2⟩
  · rw [if_pos h2, if_pos h1]
  · rw [if_neg h2, if_neg (by omega)]
theorem zx_bad (ha : 0 ≤ a) (hb : a < en) (he : en ≤ 200) (hK : K a = 8 ∨ K a = 9) (hS : S t = 0) (t1 : 1 ≤ t) (t2 : t < 40) : zf_Law_run_l0 en f0 K V lt (n + 1) t a S = some (.inr (0, f0, S)) := by
  show zf_Law_run_l0_b en f0 K V lt (zf_Law_run_l0 en f0 K V lt n) t a S = _
  unfold zf_Law_run_l0_b
  rw [if_pos hb, zl_ci ha (by omega), if_pos (by omega), if_neg (by omega), if_neg (by omega), zl_ci (a := t) (by omega) (by omega), if_pos hS]
  rcases hK with h | h
  · rw [if_pos h]
  · rw [if_neg (by omega), if_pos h]
theorem zx_bin (ha : 0 ≤ a) (hb : a < en) (he : en ≤ 200) (k1 : 5 ≤ K a) (k2 : K a ≤ 12) (hS : S t = 0 → K a ≠ 8 ∧ K a ≠ 9) (t1 : 1 ≤ t) (t2 : t < 40) : zf_Law_run_l0 en f0 K V lt (n + 1) t a S = zf_Law_run_l0 en f0 K V lt n (t - 1) (a + 1) (zv_up S (t - 1) (zd_bin (K a) (S (t - 1)) (S t))) := by
  show zf_Law_run_l0_b en f0 K V lt (zf_Law_run_l0 en f0 K V lt n) t a S = _
  unfold zf_Law_run_l0_b zd_bin
  rw [if_pos hb, zl_ci ha (by omega), if_pos (by omega), if_neg (by omega), if_neg (by omega), zl_ci (a := t) (by omega) (by omega), zi_w_id (x := t + -1) (by omega) (by omega), zi_w_id (x := a + 1) (by omega) (by omega), show t + -1 = t - 1 by omega, zl_ci (a := t - 1) (by omega) (by omega), zl_ci (a := t - 1) (by omega) (by omega)]
  have hc : K a = 5 ∨ K a = 6 ∨ K a = 7 ∨ K a = 8 ∨ K a = 9 ∨ K a = 10 ∨ K a = 11 ∨ K a = 12 := by omega
  by_cases h0 : S t = 0
  · obtain ⟨n8, n9⟩ := hS h0
    rw [if_pos h0, if_neg n8, if_neg n9]
    rcases hc with h | h | h | h | h | h | h | h
    · rw [if_pos h, if_pos h]
    · rw [if_neg (by omega), if_pos h, if_neg (by omega), if_pos h]
    · rw [if_neg (by omega), if_neg (by omega), if_pos h, if_neg (by omega), if_neg (by omega), if_pos h]
    · exact absurd h n8
    · exact absurd h n9
    · rw [if_neg (show ¬ K a = 5 by omega), if_neg (show ¬ K a = 6 by omega), if_neg (show ¬ K a = 7 by omega), if_pos h, if_neg (show ¬ K a = 5 by omega), if_neg (show ¬ K a = 6 by omega), if_neg (show ¬ K a = 7 by omega), if_neg n8, if_neg n9, if_pos h]
      split <;> rfl
    · rw [if_neg (show ¬ K a = 5 by omega), if_neg (show ¬ K a = 6 by omega), if_neg (show ¬ K a = 7 by omega), if_neg (show ¬ K a = 10 by omega), if_pos h, if_neg (show ¬ K a = 5 by omega), if_neg (show ¬ K a = 6 by omega), if_neg (show ¬ K a = 7 by omega), if_neg n8, if_neg n9, if_neg (show ¬ K a = 10 by omega), if_pos h]
      split <;> rfl
    · rw [if_neg (show ¬ K a = 5 by omega), if_neg (show ¬ K a = 6 by omega), if_neg (show ¬ K a = 7 by omega), if_neg (show ¬ K a = 10 by omega), if_neg (show ¬ K a = 11 by omega), if_neg (show ¬ K a = 5 by omega), if_neg (show ¬ K a = 6 by omega), if_neg (show ¬ K a = 7 by omega), if_neg n8, if_neg n9, if_neg (show ¬ K a = 10 by omega), if_neg (show ¬ K a = 11 by omega)]
      split <;> rfl
  · rw [if_neg h0, zl_cn h0, zl_cn h0]
    (repeat' split) <;> first | rfl | (exfalso; omega)
end ZXRUN
/-- the reference's kinds -/
def zd_op (k : Int) : Int := if k = 0 then 0 else if k = 1 then 1 else if k = 2 then 10 else if k = 3 then 12 else if k = 4 then 11 else k - 3
theorem zd_cd {k v c : Int} (e : c = 1048576 * zd_op k + v) (k1 : 0 ≤ k) (k2 : k ≤ 12) (v1 : 0 ≤ v) (v2 : v < 1048576) : zi_div c 1048576 = zd_op k ∧ zi_rem c 1048576 = v := by
  have o1 : 0 ≤ zd_op k ∧ zd_op k ≤ 12 := by unfold zd_op; (repeat' split) <;> omega
  rw [zi_div_eq (by omega) (by omega) (by decide) (by decide), zi_rem_eq (by omega) (by omega) (by decide) (by decide)]
  constructor <;> omega
theorem zd_reckon {k x y : Int} (k1 : 5 ≤ k) (k2 : k ≤ 12) (h : y = 0 → k ≠ 8 ∧ k ≠ 9) : zf_M_reckon (k - 3) x y = some (zd_bin k x y) := by
  have hc : k = 5 ∨ k = 6 ∨ k = 7 ∨ k = 8 ∨ k = 9 ∨ k = 10 ∨ k = 11 ∨ k = 12 := by omega
  unfold zf_M_reckon zd_bin
  rcases hc with h | h | h | h | h | h | h | h <;> subst h
  · rfl
  · rfl
  · rfl
  · rw [zl_cn (fun h0 => (h h0).1 rfl)]; rfl
  · rw [zl_cn (fun h0 => (h h0).2 rfl), zl_cn (fun h0 => (h h0).2 rfl)]; rfl
  · show (if x < y then some 1 else some 0) = some (if x < y then 1 else 0)
    split <;> rfl
  · show (if y < x then some 1 else some 0) = some (if y < x then 1 else 0)
    split <;> rfl
  · show (if x = y then some 1 else some 0) = some (if x = y then 1 else 0)
    split <;> rfl
section ZMRUN
variable {en a t k v : Int} {C lt S : Int → Int} {n : Nat}
theorem zm_end (h : en ≤ a) : zf_M_comesTo_l0 en 0 C lt (n + 1) t a S = some (.inl S) := by
  show zf_M_comesTo_l0_b en 0 C lt (zf_M_comesTo_l0 en 0 C lt n) t a S = _
  unfold zf_M_comesTo_l0_b
  rw [if_neg (by omega)]
theorem zm_num (ha : 0 ≤ a) (hb : a < en) (he : en ≤ 200) (hC : C a = 1048576 * zd_op 0 + v) (v1 : 0 ≤ v) (v2 : v < 1048576) (t1 : 0 ≤ t) (t2 : t < 40) : zf_M_comesTo_l0 en 0 C lt (n + 1) t a S = zf_M_comesTo_l0 en 0 C lt n (t + 1) (a + 1) (zv_up S t v) := by
  show zf_M_comesTo_l0_b en 0 C lt (zf_M_comesTo_l0 en 0 C lt n) t a S = _
  unfold zf_M_comesTo_l0_b
  obtain ⟨e1, e2⟩ := zd_cd hC (by decide) (by decide) v1 v2
  rw [if_pos hb, zl_ci ha (by omega), e1, e2, if_pos (by decide), zl_ci t1 (by omega), zi_w_id (x := t + 1) (by omega) (by omega), zi_w_id (x := a + 1) (by omega) (by omega)]
theorem zm_let (ha : 0 ≤ a) (hb : a < en) (he : en ≤ 200) (hC : C a = 1048576 * zd_op 1 + v) (v1 : 0 ≤ v) (v2 : v < 13) (t1 : 0 ≤ t) (t2 : t < 40) : zf_M_comesTo_l0 en 0 C lt (n + 1) t a S = zf_M_comesTo_l0 en 0 C lt n (t + 1) (a + 1) (zv_up S t (lt v)) := by
  show zf_M_comesTo_l0_b en 0 C lt (zf_M_comesTo_l0 en 0 C lt n) t a S = _
  unfold zf_M_comesTo_l0_b
  obtain ⟨e1, e2⟩ := zd_cd hC (by decide) (by decide) v1 (by omega)
  rw [if_pos hb, zl_ci ha (by omega), e1, e2, if_neg (by decide), if_pos (by decide), zl_ci v1 (by omega), zl_ci t1 (by omega), zi_w_id (x := t + 1) (by omega) (by omega), zi_w_id (x := a + 1) (by omega) (by omega)]
theorem zm_not (ha : 0 ≤ a) (hb : a < en) (he : en ≤ 200) (hC : C a = 1048576 * zd_op 2 + v) (v1 : 0 ≤ v) (v2 : v < 1048576) (hS : S (t - 1) = 0 ∨ S (t - 1) = 1) (t1 : 1 ≤ t) (t2 : t ≤ 40) : zf_M_comesTo_l0 en 0 C lt (n + 1) t a S = zf_M_comesTo_l0 en 0 C lt n t (a + 1) (zv_up S (t - 1) (if S (t - 1) = 0 then 1 else 0)) := by
  show zf_M_comesTo_l0_b en 0 C lt (zf_M_comesTo_l0 en 0 C lt n) t a S = _
  unfold zf_M_comesTo_l0_b
  obtain ⟨e1, e2⟩ := zd_cd hC (by decide) (by decide) v1 v2
  rw [if_pos hb, zl_ci ha (by omega), e1, if_neg (by decide), if_neg (by decide), if_pos (by decide), zi_w_id (x := t - 1) (by omega) (by omega), zl_ci (a := t - 1) (by omega) (by omega), zi_w_id (x := a + 1) (by omega) (by omega)]
  rcases hS with h | h <;> rw [h] <;> rfl
theorem zm_jmp (ha : 0 ≤ a) (hb : a < en) (he : en ≤ 200) (hC : C a = 1048576 * zd_op k + v) (hK : k = 3 ∧ S (t - 1) = 1 ∨ k = 4 ∧ S (t - 1) = 0) (v1 : 0 ≤ v) (v2 : v < 1048576) (t1 : 1 ≤ t) (t2 : t ≤ 40) : zf_M_comesTo_l0 en 0 C lt (n + 1) t a S = zf_M_comesTo_l0 en 0 C lt n t v S := by
  show zf_M_comesTo_l0_b en 0 C lt (zf_M_comesTo_l0 en 0 C lt n) t a S = _
  unfold zf_M_comesTo_l0_b
  obtain ⟨e1, e2⟩ := zd_cd hC (by omega) (by omega) v1 v2
  rw [if_pos hb, zl_ci ha (by omega), e1, e2, zi_w_id (x := t - 1) (by omega) (by omega), zi_w_id (x := 0 + v) (by omega) (by omega), Int.zero_add, zl_ci (a := t - 1) (by omega) (by omega), zl_ci (a := t - 1) (by omega) (by omega)]
  rcases hK with ⟨rfl, h⟩ | ⟨rfl, h⟩
  · rw [if_neg (by decide), if_neg (by decide), if_neg (by decide), if_neg (by decide), if_pos (by decide), zl_ci (a := t - 1) (by omega) (by omega), if_pos h]
  · rw [if_neg (by decide), if_neg (by decide), if_neg (by decide), if_pos (by decide), if_pos h]
theorem zm_thr (ha : 0 ≤ a) (hb : a < en) (he : en ≤ 200) (hC : C a = 1048576 * zd_op k + v) (hK : k = 3 ∧ S (t - 1) = 0 ∨ k = 4 ∧ S (t - 1) = 1) (v1 : 0 ≤ v) (v2 : v < 1048576) (t1 : 1 ≤ t) (t2 : t ≤ 40) : zf_M_comesTo_l0 en 0 C lt (n + 1) t a S = zf_M_comesTo_l0 en 0 C lt n (t - 1) (a + 1) S := by
  show zf_M_comesTo_l0_b en 0 C lt (zf_M_comesTo_l0 en 0 C lt n) t a S = _
  unfold zf_M_comesTo_l0_b
  obtain ⟨e1, e2⟩ := zd_cd hC (by omega) (by omega) v1 v2
  rw [if_pos hb, zl_ci ha (by omega), e1, zi_w_id (x := t - 1) (by omega) (by omega), zi_w_id (x := a + 1) (by omega) (by omega), zl_ci (a := t - 1) (by omega) (by omega), zl_ci (a := t - 1) (by omega) (by omega)]
  rcases hK with ⟨rfl, h⟩ | ⟨rfl, h⟩
  · rw [if_neg (by decide), if_neg (by decide), if_neg (by decide), if_neg (by decide), if_pos (by decide), zl_ci (a := t - 1) (by omega) (by omega), if_neg (by omega)]
  · rw [if_neg (by decide), if_neg (by decide), if_neg (by decide), if_pos (by decide), if_neg (by omega)]
theorem zm_bad (ha : 0 ≤ a) (hb : a < en) (he : en ≤ 200) (hC : C a = 1048576 * zd_op k + v) (hK : k = 8 ∨ k = 9) (hS : S (t - 1) = 0) (v1 : 0 ≤ v) (v2 : v < 1048576) (t1 : 2 ≤ t) (t2 : t ≤ 40) : zf_M_comesTo_l0 en 0 C lt (n + 1) t a S = some (.inr (0, S)) := by
  show zf_M_comesTo_l0_b en 0 C lt (zf_M_comesTo_l0 en 0 C lt n) t a S = _
  unfold zf_M_comesTo_l0_b
  obtain ⟨e1, e2⟩ := zd_cd hC (by omega) (by omega) v1 v2
  rw [if_pos hb, zl_ci ha (by omega), e1, zi_w_id (x := t - 1) (by omega) (by omega)]
  rcases hK with rfl | rfl
  · rw [if_neg (by decide), if_neg (by decide), if_neg (by decide), if_neg (by decide), if_neg (by decide), if_pos (by decide), zl_ci (a := t - 1) (by omega) (by omega), if_pos hS]
  · rw [if_neg (by decide), if_neg (by decide), if_neg (by decide), if_neg (by decide), if_neg (by decide), if_neg (by decide), if_pos (by decide), zl_ci (a := t - 1) (by omega) (by omega), if_pos hS]
theorem zm_bin (ha : 0 ≤ a) (hb : a < en) (he : en ≤ 200) (hC : C a = 1048576 * zd_op k + v) (k1 : 5 ≤ k) (k2 : k ≤ 12) (hS : S (t - 1) = 0 → k ≠ 8 ∧ k ≠ 9) (v1 : 0 ≤ v) (v2 : v < 1048576) (t1 : 2 ≤ t) (t2 : t ≤ 40) : zf_M_comesTo_l0 en 0 C lt (n + 1) t a S = zf_M_comesTo_l0 en 0 C lt n (t - 1) (a + 1) (zv_up S (t - 2) (zd_bin k (S (t - 2)) (S (t - 1)))) := by
  show zf_M_comesTo_l0_b en 0 C lt (zf_M_comesTo_l0 en 0 C lt n) t a S = _
  unfold zf_M_comesTo_l0_b
  obtain ⟨e1, e2⟩ := zd_cd hC (by omega) (by omega) v1 v2
  have eo : zd_op k = k - 3 := by unfold zd_op; rw [if_neg (by omega), if_neg (by omega), if_neg (by omega), if_neg (by omega), if_neg (by omega)]
  rw [if_pos hb, zl_ci ha (by omega), e1, zi_w_id (x := t - 1) (by omega) (by omega), zi_w_id (x := t - 1 - 1) (by omega) (by omega), zi_w_id (x := a + 1) (by omega) (by omega), show t - 1 - 1 = t - 2 by omega, eo, zd_reckon k1 k2 hS, zl_b]
  rw [if_neg (by omega), if_neg (by omega), if_neg (by omega), if_neg (by omega), if_neg (by omega)]
  by_cases h8 : k - 3 = 5
  · rw [if_pos h8, zl_ci (a := t - 1) (by omega) (by omega), if_neg (fun h => (hS h).1 (by omega)), zl_ci (a := t - 2) (by omega) (by omega)]
  · rw [if_neg h8]
    by_cases h9 : k - 3 = 6
    · rw [if_pos h9, zl_ci (a := t - 1) (by omega) (by omega), if_neg (fun h => (hS h).2 (by omega)), zl_ci (a := t - 2) (by omega) (by omega)]
    · rw [if_neg h9, zl_ci (a := t - 2) (by omega) (by omega), zl_ci (a := t - 1) (by omega) (by omega)]
end ZMRUN
end
section
/-! What a run of steps of a law comes to: for both machines at once, made up of its pieces. -/
theorem zl_ns {α : Type} {v : α} {P : Prop} (h : (none : Option α) = some v) : P := by cases h
theorem zl_sn {α : Type} {v : α} {P : Prop} (h : some v = (none : Option α)) : P := by cases h
/-- what a run of steps leaves at a height: a value, and what lies below as it was; or it is refused -/
def zd_eff {α : Type} (h : Int) (S : Int → Int) (r : Option Int) (A : Nat → Option α) (B : Nat → (Int → Int) → Option α) (bad : (Int → Int) → α) (len : Nat) : Prop :=
  ∃ (k : Nat) (S' : Int → Int), k ≤ len ∧ (∀ j, j < h → S' j = S j) ∧ (r = none → ∀ n, A (n + k + 1) = some (bad S')) ∧ ∀ v, r = some v → S' h = v ∧ ∀ n, A (n + k) = B n S'
theorem zd_leaf {α : Type} {h : Int} {S : Int → Int} {A : Nat → Option α} {B : Nat → (Int → Int) → Option α} {bad : (Int → Int) → α} {v : Int} (hA : ∀ n, A (n + 1) = B n (zv_up S h v)) : zd_eff h S (some v) A B bad 1 :=
  ⟨1, zv_up S h v, Nat.le_refl _, fun j hj => zv_up_n (by omega), fun hn => zl_sn hn, fun w hw => by
    cases hw
    exact ⟨zv_up_s, hA⟩⟩
theorem zd_two {α : Type} {h : Int} {S : Int → Int} {r1 r2 : Option Int} {opr : Int → Int → Option Int} {A : Nat → Option α} {B C D : Nat → (Int → Int) → Option α} {bad : (Int → Int) → α} {l1 l2 : Nat}
    (e1 : zd_eff h S r1 A B bad l1) (e2 : ∀ S1, zd_eff (h + 1) S1 r2 (fun n => B n S1) C bad l2)
    (hop : ∀ S2 x y, r1 = some x → r2 = some y → S2 h = x → S2 (h + 1) = y → (opr x y = none → ∀ n, C (n + 1) S2 = some (bad S2)) ∧ ∀ z, opr x y = some z → ∀ n, C (n + 1) S2 = D n (zv_up S2 h z)) :
    zd_eff h S (r1.bind fun x => r2.bind fun y => opr x y) A D bad (l1 + l2 + 1) := by
  obtain ⟨k1, S1, b1, f1, n1, s1⟩ := e1
  cases hr1 : r1 with
  | none => exact ⟨k1, S1, by omega, f1, fun _ => n1 hr1, fun v hv => zl_ns hv⟩
  | some x =>
    obtain ⟨v1, s1⟩ := s1 x hr1
    obtain ⟨k2, S2, b2, f2, n2, s2⟩ := e2 S1
    have low : ∀ j, j < h → S2 j = S j := fun j hj => (f2 j (by omega)).trans (f1 j hj)
    cases hr2 : r2 with
    | none =>
      refine ⟨k1 + k2, S2, by omega, low, fun _ n => ?_, fun v hv => zl_ns hv⟩
      rw [show n + (k1 + k2) + 1 = (n + k2 + 1) + k1 by omega, s1]
      exact n2 hr2 n
    | some y =>
      obtain ⟨v2, s2⟩ := s2 y hr2
      obtain ⟨o1, o2⟩ := hop S2 x y hr1 hr2 ((f2 h (by omega)).trans v1) v2
      cases ho : opr x y with
      | none =>
        refine ⟨k1 + k2, S2, by omega, low, fun _ n => ?_, fun v hv => ?_⟩
        · rw [show n + (k1 + k2) + 1 = ((n + 1) + k2) + k1 by omega, s1]
          exact (s2 (n + 1)).trans (o1 ho n)
        · have hv : opr x y = some v := hv
          rw [ho] at hv
          exact zl_ns hv
      | some z =>
        refine ⟨k1 + k2 + 1, zv_up S2 h z, by omega, fun j hj => by rw [zv_up_n (by omega)]; exact low j hj, fun hn => ?_, fun v hv => ?_⟩
        · have hn : opr x y = none := hn
          rw [ho] at hn
          exact zl_sn hn
        · have hv : opr x y = some v := hv
          rw [ho] at hv
          cases hv
          refine ⟨zv_up_s, fun n => ?_⟩
          rw [show n + (k1 + k2 + 1) = ((n + 1) + k2) + k1 by omega, s1]
          exact (s2 (n + 1)).trans (o2 z ho n)
theorem zd_map {α : Type} {h : Int} {S : Int → Int} {r1 : Option Int} {f : Int → Int} {A : Nat → Option α} {B D : Nat → (Int → Int) → Option α} {bad : (Int → Int) → α} {l1 : Nat}
    (e1 : zd_eff h S r1 A B bad l1) (hm : ∀ S1 x, r1 = some x → S1 h = x → ∀ n, B (n + 1) S1 = D n (zv_up S1 h (f x))) : zd_eff h S (r1.map f) A D bad (l1 + 1) := by
  obtain ⟨k1, S1, b1, f1, n1, s1⟩ := e1
  cases hr1 : r1 with
  | none => exact ⟨k1, S1, by omega, f1, fun _ => n1 hr1, fun v hv => zl_ns hv⟩
  | some x =>
    obtain ⟨v1, s1⟩ := s1 x hr1
    refine ⟨k1 + 1, zv_up S1 h (f x), by omega, fun j hj => by rw [zv_up_n (by omega)]; exact f1 j hj, fun hn => zl_sn hn, fun v hv => ?_⟩
    have hv : some (f x) = some v := hv
    cases hv
    refine ⟨zv_up_s, fun n => ?_⟩
    rw [show n + (k1 + 1) = (n + 1) + k1 by omega, s1]
    exact hm S1 x hr1 v1 n
theorem zd_jump {α : Type} {h : Int} {S : Int → Int} {r1 r2 : Option Int} {tk : Int → Bool} {A : Nat → Option α} {B B2 D : Nat → (Int → Int) → Option α} {bad : (Int → Int) → α} {l1 l2 : Nat}
    (e1 : zd_eff h S r1 A B bad l1)
    (ht : ∀ S1 x, r1 = some x → S1 h = x → tk x = true → ∀ n, B (n + 1) S1 = D n S1)
    (hf : ∀ S1 x, r1 = some x → S1 h = x → tk x = false → ∀ n, B (n + 1) S1 = B2 n S1)
    (e2 : ∀ S1, zd_eff h S1 r2 (fun n => B2 n S1) D bad l2) :
    zd_eff h S (r1.bind fun x => if tk x = true then some x else r2) A D bad (l1 + l2 + 1) := by
  obtain ⟨k1, S1, b1, f1, n1, s1⟩ := e1
  cases hr1 : r1 with
  | none => exact ⟨k1, S1, by omega, f1, fun _ => n1 hr1, fun v hv => zl_ns hv⟩
  | some x =>
    obtain ⟨v1, s1⟩ := s1 x hr1
    cases hk : tk x with
    | true =>
      have e : ((some x).bind fun x => if tk x = true then some x else r2) = some x := by
        show (if tk x = true then some x else r2) = some x
        rw [if_pos hk]
      rw [e]
      refine ⟨k1 + 1, S1, by omega, f1, fun hn => zl_sn hn, fun v hv => ?_⟩
      cases hv
      refine ⟨v1, fun n => ?_⟩
      rw [show n + (k1 + 1) = (n + 1) + k1 by omega, s1]
      exact ht S1 x hr1 v1 hk n
    | false =>
      have e : ((some x).bind fun x => if tk x = true then some x else r2) = r2 := by
        show (if tk x = true then some x else r2) = r2
        rw [if_neg (by rw [hk]; decide)]
      rw [e]
      obtain ⟨k2, S2, b2, f2, n2, s2⟩ := e2 S1
      refine ⟨k1 + k2 + 1, S2, by omega, fun j hj => (f2 j hj).trans (f1 j hj), fun hn n => ?_, fun v hv => ?_⟩
      · rw [show n + (k1 + k2 + 1) + 1 = ((n + k2 + 1) + 1) + k1 by omega, s1, hf S1 x hr1 v1 hk]
        exact n2 hn n
      · obtain ⟨v2, s2⟩ := s2 v hv
        refine ⟨v2, fun n => ?_⟩
        rw [show n + (k1 + k2 + 1) = ((n + k2) + 1) + k1 by omega, s1, hf S1 x hr1 v1 hk]
        exact s2 n
/-- steps that agree, on both sides -/
def zd_ag (K V : Int → Int) (a b : Int) (K' V' C' : Int → Int) : Prop := ∀ j, a ≤ j → j < b → K' j = K j ∧ V' j = V j ∧ C' j = 1048576 * zd_op (K j) + V j
def zd_fx (ρ : Option Int) (K V lt C : Int → Int) (a b h en f0 : Int) (S : Int → Int) : Prop :=
  zd_eff h S ρ (fun n => zf_Law_run_l0 en f0 K V lt n (h - 1) a S) (fun n S' => zf_Law_run_l0 en f0 K V lt n h b S') (fun S' => .inr (0, f0, S')) (b - a).toNat ∧
  zd_eff h S ρ (fun n => zf_M_comesTo_l0 en 0 C lt n h a S) (fun n S' => zf_M_comesTo_l0 en 0 C lt n (h + 1) b S') (fun S' => .inr (0, S')) (b - a).toNat
/-- the steps from a up to b come to ρ of the letters; cb: to 0 or 1 alone -/
def zd_seg (cb : Bool) (K V : Int → Int) (a b nd : Int) (ρ : (Int → Int) → Option Int) : Prop := (0 ≤ a ∧ a < b) ∧
  (cb = true → ∀ lt v, ρ lt = some v → v = 0 ∨ v = 1) ∧
  (∀ lt lt', (∀ j, a ≤ j → j < b → K j = 1 → 0 ≤ V j → V j < 13 → lt (V j) = lt' (V j)) → ρ lt = ρ lt') ∧
  ∀ lt K' V' C', zd_ag K V a b K' V' C' → ∀ h en f0 S, 0 ≤ h → h + nd ≤ 40 → b ≤ en → en ≤ 200 → zd_fx (ρ lt) K' V' lt C' a b h en f0 S
theorem zd_seg_fr {cb : Bool} {K V K2 V2 : Int → Int} {a b nd : Int} {ρ : (Int → Int) → Option Int} (h : zd_seg cb K V a b nd ρ) (k : ∀ j, a ≤ j → j < b → K2 j = K j ∧ V2 j = V j) : zd_seg cb K2 V2 a b nd ρ := by
  obtain ⟨h1, h2, h3, h4⟩ := h
  refine ⟨h1, h2, fun lt lt' q => h3 lt lt' fun j j1 j2 j3 j4 j5 => ?_, fun lt K' V' C' q => h4 lt K' V' C' fun j j1 j2 => ?_⟩
  · have := q j j1 j2 ((k j j1 j2).1.trans j3) (by rw [(k j j1 j2).2]; exact j4) (by rw [(k j j1 j2).2]; exact j5)
    rwa [(k j j1 j2).2] at this
  · have := q j j1 j2
    rw [(k j j1 j2).1, (k j j1 j2).2] at this
    exact this
theorem zd_seg_nd {cb : Bool} {K V : Int → Int} {a b nd nd2 : Int} {ρ : (Int → Int) → Option Int} (h : zd_seg cb K V a b nd ρ) (k : nd ≤ nd2) : zd_seg cb K V a b nd2 ρ :=
  ⟨h.1, h.2.1, h.2.2.1, fun lt K' V' C' q hh en f0 S a1 a2 => h.2.2.2 lt K' V' C' q hh en f0 S a1 (by omega)⟩
theorem zd_ag_l {K V K' V' C' : Int → Int} {a b c : Int} (h : zd_ag K V a c K' V' C') (k : b ≤ c) : zd_ag K V a b K' V' C' := fun j j1 j2 => h j j1 (by omega)
theorem zd_ag_r {K V K' V' C' : Int → Int} {a b c : Int} (h : zd_ag K V a c K' V' C') (k : a ≤ b) : zd_ag K V b c K' V' C' := fun j j1 j2 => h j (by omega) j2
theorem zd_eff_le {α : Type} {h : Int} {S : Int → Int} {r : Option Int} {A : Nat → Option α} {B : Nat → (Int → Int) → Option α} {bad : (Int → Int) → α} {l l2 : Nat} (e : zd_eff h S r A B bad l) (k : l ≤ l2) : zd_eff h S r A B bad l2 := by
  obtain ⟨k1, S1, b1, q⟩ := e
  exact ⟨k1, S1, by omega, q⟩
theorem zg_num {K V : Int → Int} {a : Int} (ha : 0 ≤ a) (hK : K a = 0) (v1 : 0 ≤ V a) (v2 : V a < 1048576) : zd_seg false K V a (a + 1) 1 (fun _ => some (V a)) := by
  refine ⟨⟨ha, by omega⟩, fun h => (by cases h), fun _ _ _ => rfl, fun lt K' V' C' q h en f0 S h1 h2 h3 h4 => ?_⟩
  obtain ⟨q1, q2, q3⟩ := q a (Int.le_refl _) (by omega)
  rw [hK] at q1 q3
  rw [← q2] at v1 v2 ⊢
  rw [← q2] at q3
  refine ⟨zd_eff_le (zd_leaf fun n => ?_) (by omega), zd_eff_le (zd_leaf fun n => ?_) (by omega)⟩
  · have := zx_num (n := n) (f0 := f0) (V := V') (lt := lt) (S := S) (t := h - 1) ha (by omega) h4 q1 (by omega) (by omega)
    rwa [show h - 1 + 1 = h by omega] at this
  · exact zm_num ha (by omega) h4 q3 v1 v2 h1 (by omega)
theorem zg_let {K V : Int → Int} {a : Int} (ha : 0 ≤ a) (hK : K a = 1) (v1 : 0 ≤ V a) (v2 : V a < 13) : zd_seg false K V a (a + 1) 1 (fun lt => some (lt (V a))) := by
  refine ⟨⟨ha, by omega⟩, fun h => (by cases h), fun lt lt' q => ?_, fun lt K' V' C' q h en f0 S h1 h2 h3 h4 => ?_⟩
  · show some (lt (V a)) = some (lt' (V a))
    rw [q a (Int.le_refl _) (by omega) hK v1 v2]
  obtain ⟨q1, q2, q3⟩ := q a (Int.le_refl _) (by omega)
  rw [hK] at q1 q3
  rw [← q2] at v1 v2 ⊢
  rw [← q2] at q3
  refine ⟨zd_eff_le (zd_leaf fun n => ?_) (by omega), zd_eff_le (zd_leaf fun n => ?_) (by omega)⟩
  · have := zx_let (n := n) (f0 := f0) (V := V') (lt := lt) (S := S) (t := h - 1) ha (by omega) h4 q1 v1 v2 (by omega) (by omega)
    rwa [show h - 1 + 1 = h by omega] at this
  · exact zm_let ha (by omega) h4 q3 v1 v2 h1 (by omega)
def zd_o (k x y : Int) : Option Int := if y = 0 ∧ (k = 8 ∨ k = 9) then none else some (zd_bin k x y)
theorem zg_bin {cb : Bool} {K V : Int → Int} {a b c nd nd2 : Int} {ρ1 ρ2 : (Int → Int) → Option Int} (s1 : zd_seg false K V a b nd ρ1) (s2 : zd_seg false K V b c nd2 ρ2) (k1 : 5 ≤ K c) (k2 : K c ≤ 12) (hV : V c = 0) (hnd : nd2 + 1 ≤ nd) (n2 : 1 ≤ nd2) (hcb : cb = true → 10 ≤ K c) : zd_seg cb K V a (c + 1) nd (fun lt => (ρ1 lt).bind fun x => (ρ2 lt).bind fun y => zd_o (K c) x y) := by
  obtain ⟨⟨a1, a2⟩, -, i1, e1⟩ := s1
  obtain ⟨⟨b1, b2⟩, -, i2, e2⟩ := s2
  refine ⟨⟨a1, by omega⟩, fun hc lt v hv => ?_, fun lt lt' q => ?_, fun lt K' V' C' q h en f0 S h1 h2 h3 h4 => ?_⟩
  · have k10 := hcb hc
    have hv : ((ρ1 lt).bind fun x => (ρ2 lt).bind fun y => zd_o (K c) x y) = some v := hv
    cases hx : ρ1 lt with
    | none => rw [hx] at hv; exact zl_ns hv
    | some x =>
      cases hy : ρ2 lt with
      | none => rw [hx, hy] at hv; exact zl_ns hv
      | some y =>
        rw [hx, hy] at hv
        have hv : zd_o (K c) x y = some v := hv
        unfold zd_o zd_bin at hv
        rw [if_neg (by omega), if_neg (by omega), if_neg (by omega), if_neg (by omega), if_neg (by omega), if_neg (by omega)] at hv
        cases hv
        (repeat' split) <;> simp
  · show ((ρ1 lt).bind fun x => (ρ2 lt).bind fun y => zd_o (K c) x y) = ((ρ1 lt').bind fun x => (ρ2 lt').bind fun y => zd_o (K c) x y)
    rw [i1 lt lt' (fun j j1 j2 => q j j1 (by omega)), i2 lt lt' (fun j j1 j2 => q j (by omega) (by omega))]
  obtain ⟨q1, q2, q3⟩ := q c (by omega) (by omega)
  rw [hV] at q3
  have e1 := e1 lt K' V' C' (zd_ag_l q (by omega)) h en f0 S h1 h2 (by omega) h4
  have e2 := fun S1 => e2 lt K' V' C' (zd_ag_r (zd_ag_l q (by omega)) (by omega)) (h + 1) en f0 S1 (by omega) (by omega) (by omega) h4
  refine ⟨zd_eff_le (zd_two (l2 := (c - b).toNat) (C := fun n S' => zf_Law_run_l0 en f0 K' V' lt n (h + 1) c S') e1.1 (fun S1 => ?_) fun S2 x y r1 r2 u1 u2 => ⟨fun ho n => ?_, fun z ho n => ?_⟩) (by omega), zd_eff_le (zd_two (l2 := (c - b).toNat) (C := fun n S' => zf_M_comesTo_l0 en 0 C' lt n (h + 1 + 1) c S') e1.2 (fun S1 => ?_) fun S2 x y r1 r2 u1 u2 => ⟨fun ho n => ?_, fun z ho n => ?_⟩) (by omega)⟩
  · have := (e2 S1).1
    rwa [show h + 1 - 1 = h by omega] at this
  · unfold zd_o at ho
    split at ho
    · rename_i hz
      exact zx_bad (t := h + 1) (by omega) (by omega) h4 (by rw [q1]; exact hz.2) (by rw [u2]; exact hz.1) (by omega) (by omega)
    · cases ho
  · unfold zd_o at ho
    split at ho
    · cases ho
    · rename_i hz
      cases ho
      have := zx_bin (n := n) (f0 := f0) (V := V') (lt := lt) (S := S2) (t := h + 1) (a := c) (K := K') (en := en) (by omega) (by omega) h4 (by omega) (by omega) (fun h0 => by rw [q1]; rw [u2] at h0; omega) (by omega) (by omega)
      rw [show h + 1 - 1 = h by omega, u1, u2, q1] at this
      exact this
  · exact (e2 S1).2
  · unfold zd_o at ho
    split at ho
    · rename_i hz
      exact zm_bad (t := h + 1 + 1) (by omega) (by omega) h4 q3 hz.2 (by rw [show h + 1 + 1 - 1 = h + 1 by omega, u2]; exact hz.1) (by decide) (by decide) (by omega) (by omega)
    · cases ho
  · unfold zd_o at ho
    split at ho
    · cases ho
    · rename_i hz
      cases ho
      have := zm_bin (n := n) (lt := lt) (S := S2) (t := h + 1 + 1) (by omega) (by omega) h4 q3 k1 k2 (fun h0 => by rw [show h + 1 + 1 - 1 = h + 1 by omega, u2] at h0; omega) (by decide) (by decide) (by omega) (by omega)
      rw [show h + 1 + 1 - 1 = h + 1 by omega, show h + 1 + 1 - 2 = h by omega, u1, u2] at this
      exact this
theorem zg_not {K V : Int → Int} {a b nd : Int} {ρ1 : (Int → Int) → Option Int} (s1 : zd_seg true K V a b nd ρ1) (hK : K b = 2) (hV : V b = 0) (n1 : 1 ≤ nd) : zd_seg true K V a (b + 1) nd (fun lt => (ρ1 lt).map fun x => if x = 0 then 1 else 0) := by
  obtain ⟨⟨a1, a2⟩, c1, i1, e1⟩ := s1
  refine ⟨⟨a1, by omega⟩, fun hc lt v hv => ?_, fun lt lt' q => ?_, fun lt K' V' C' q h en f0 S h1 h2 h3 h4 => ?_⟩
  · have hv : ((ρ1 lt).map fun x => if x = 0 then (1 : Int) else 0) = some v := hv
    cases hx : ρ1 lt with
    | none => rw [hx] at hv; exact zl_ns hv
    | some x =>
      rw [hx] at hv
      have hv : some (if x = 0 then (1 : Int) else 0) = some v := hv
      cases hv
      split <;> simp
  · show (ρ1 lt).map _ = (ρ1 lt').map _
    rw [i1 lt lt' (fun j j1 j2 => q j j1 (by omega))]
  obtain ⟨q1, q2, q3⟩ := q b (by omega) (by omega)
  rw [hK] at q1 q3
  rw [hV] at q3
  have e1 := e1 lt K' V' C' (zd_ag_l q (by omega)) h en f0 S h1 h2 (by omega) h4
  refine ⟨zd_eff_le (zd_map e1.1 fun S1 x r1 u1 n => ?_) (by omega), zd_eff_le (zd_map e1.2 fun S1 x r1 u1 n => ?_) (by omega)⟩
  · have := zx_not (n := n) (f0 := f0) (V := V') (lt := lt) (S := S1) (t := h) (by omega) (by omega) h4 q1 (by omega) (by omega)
    rwa [u1] at this
  · have hx := c1 rfl lt x r1
    have := zm_not (n := n) (lt := lt) (S := S1) (t := h + 1) (by omega) (by omega) h4 q3 (by decide) (by decide) (by rw [show h + 1 - 1 = h by omega, u1]; exact hx) (by omega) (by omega)
    rwa [show h + 1 - 1 = h by omega, u1] at this
theorem zg_jmp {K V : Int → Int} {a b c nd : Int} {ρ1 ρ2 : (Int → Int) → Option Int} (s1 : zd_seg true K V a b nd ρ1) (s2 : zd_seg true K V (b + 1) c nd ρ2) (hK : K b = 3 ∨ K b = 4) (hV : V b = c) (n1 : 1 ≤ nd) : zd_seg true K V a c nd (fun lt => (ρ1 lt).bind fun x => if decide (x = if K b = 3 then 1 else 0) = true then some x else ρ2 lt) := by
  obtain ⟨⟨a1, a2⟩, c1, i1, e1⟩ := s1
  obtain ⟨⟨b1, b2⟩, c2, i2, e2⟩ := s2
  refine ⟨⟨a1, by omega⟩, fun hc lt v hv => ?_, fun lt lt' q => ?_, fun lt K' V' C' q h en f0 S h1 h2 h3 h4 => ?_⟩
  · have hv : ((ρ1 lt).bind fun x => if decide (x = if K b = 3 then 1 else 0) = true then some x else ρ2 lt) = some v := hv
    cases hx : ρ1 lt with
    | none => rw [hx] at hv; exact zl_ns hv
    | some x =>
      rw [hx] at hv
      have hv : (if decide (x = if K b = 3 then 1 else 0) = true then some x else ρ2 lt) = some v := hv
      by_cases hd : decide (x = if K b = 3 then 1 else 0) = true
      · rw [if_pos hd] at hv
        cases hv; exact c1 rfl lt _ hx
      · rw [if_neg hd] at hv
        exact c2 rfl lt v hv
  · show ((ρ1 lt).bind fun x => if decide (x = if K b = 3 then 1 else 0) = true then some x else ρ2 lt) = ((ρ1 lt').bind fun x => if decide (x = if K b = 3 then 1 else 0) = true then some x else ρ2 lt')
    rw [i1 lt lt' (fun j j1 j2 => q j j1 (by omega)), i2 lt lt' (fun j j1 j2 => q j (by omega) (by omega))]
  obtain ⟨q1, q2, q3⟩ := q b (by omega) (by omega)
  rw [hV] at q2 q3
  have e1 := e1 lt K' V' C' (zd_ag_l q (by omega)) h en f0 S h1 h2 (by omega) h4
  have e2 := fun S1 => e2 lt K' V' C' (zd_ag_r q (by omega)) h en f0 S1 h1 h2 h3 h4
  have h01 : ∀ x, ρ1 lt = some x → x = 0 ∨ x = 1 := fun x hx => c1 rfl lt x hx
  refine ⟨zd_eff_le (zd_jump e1.1 (B2 := fun n S1 => zf_Law_run_l0 en f0 K' V' lt n (h - 1) (b + 1) S1) (fun S1 x r1 u1 hk n => ?_) (fun S1 x r1 u1 hk n => ?_) (fun S1 => (e2 S1).1)) (by omega), zd_eff_le (zd_jump e1.2 (B2 := fun n S1 => zf_M_comesTo_l0 en 0 C' lt n h (b + 1) S1) (fun S1 x r1 u1 hk n => ?_) (fun S1 x r1 u1 hk n => ?_) (fun S1 => (e2 S1).2)) (by omega)⟩
  · have hk := of_decide_eq_true hk
    have := zx_jmp (n := n) (f0 := f0) (K := K') (V := V') (lt := lt) (S := S1) (t := h) (a := b) (en := en) (by omega) (by omega) h4 (by
      rw [q1, u1]
      rcases hK with hK | hK
      · rw [if_pos hK] at hk; omega
      · rw [if_neg (by omega)] at hk; omega) (by omega) (by omega) (by omega) (by omega)
    rwa [q2] at this
  · have hk := of_decide_eq_false hk
    have hx := h01 x r1
    exact zx_thr (t := h) (by omega) (by omega) h4 (by
      rw [q1, u1]
      rcases hK with hK | hK
      · rw [if_pos hK] at hk; omega
      · rw [if_neg (by omega)] at hk; omega) (by omega) (by omega)
  · have hk := of_decide_eq_true hk
    exact zm_jmp (t := h + 1) (by omega) (by omega) h4 q3 (by
      rw [show h + 1 - 1 = h by omega, u1]
      rcases hK with hK | hK
      · rw [if_pos hK] at hk; omega
      · rw [if_neg (by omega)] at hk; omega) (by omega) (by omega) (by omega) (by omega)
  · have hk := of_decide_eq_false hk
    have hx := h01 x r1
    have := zm_thr (n := n) (lt := lt) (S := S1) (t := h + 1) (by omega) (by omega) h4 q3 (by
      rw [show h + 1 - 1 = h by omega, u1]
      rcases hK with hK | hK
      · rw [if_pos hK] at hk; omega
      · rw [if_neg (by omega)] at hk; omega) (by omega) (by omega) (by omega) (by omega)
    rwa [show h + 1 - 1 = h by omega] at this
/-- run and comesTo over such steps -/
theorem zd_run {cb : Bool} {K V C : Int → Int} {a b nd : Int} {ρ : (Int → Int) → Option Int} (s : zd_seg cb K V a b nd ρ) (hn : nd ≤ 40) (hb : b ≤ 200) (q : zd_ag K V a b K V C) (lt : Int → Int) :
    (∀ f0 S, ∃ S', zf_Law_run a b f0 K S V lt = some ((match ρ lt with | none => ((0 : Int), f0) | some v => ((1 : Int), v)).1, (match ρ lt with | none => ((0 : Int), f0) | some v => ((1 : Int), v)).2, S')) ∧
    ∀ S, ∃ S', zf_M_comesTo a b C S lt = some ((match ρ lt with | none => (0 : Int) | some v => v), S') := by
  obtain ⟨⟨a1, a2⟩, -, -, e⟩ := s
  have e := fun f0 S => e lt K V C q 0 b f0 S (Int.le_refl _) (by omega) (Int.le_refl _) hb
  refine ⟨fun f0 S => ?_, fun S => ?_⟩
  · obtain ⟨k, S', k1, -, kn, ks⟩ := (e f0 S).1
    have hf : zi_fu = (zi_fu - k - 1) + k + 1 := by
      have : 1000 < zi_fu := by decide
      omega
    refine ⟨S', ?_⟩
    unfold zf_Law_run
    rw [hf]
    cases hr : ρ lt with
    | none =>
      have := kn hr (zi_fu - k - 1)
      rw [show (0 : Int) - 1 = -1 from rfl] at this
      rw [show zf_Law_run_l0 b f0 K V lt (zi_fu - k - 1 + k + 1) (-1) a S = _ from this]
      rfl
    | some v =>
      obtain ⟨v1, v2⟩ := ks v hr
      have := v2 (zi_fu - k - 1 + 1)
      rw [show zi_fu - k - 1 + 1 + k = zi_fu - k - 1 + k + 1 by omega, show (0 : Int) - 1 = -1 from rfl] at this
      have this : zf_Law_run_l0 b f0 K V lt (zi_fu - k - 1 + k + 1) (-1) a S = zf_Law_run_l0 b f0 K V lt (zi_fu - k - 1 + 1) 0 b S' := this
      rw [this, zx_end (Int.le_refl _)]
      show (if (0 : Int) < 0 then some (1, 0, S') else (cond (zi_ix 0 40) (some (1, S' 0, S')) none)) = _
      rw [if_neg (by decide), v1]
      rfl
  · obtain ⟨k, S', k1, -, kn, ks⟩ := (e 0 S).2
    have hf : zi_fu = (zi_fu - k - 1) + k + 1 := by
      have : 1000 < zi_fu := by decide
      omega
    refine ⟨S', ?_⟩
    unfold zf_M_comesTo
    have h0 : zi_w (220 * (zi_div a 220)) = 0 := by
      rw [zi_div_eq a1 (by omega) (by decide) (by decide), show a / 220 = 0 by omega]; rfl
    rw [hf, h0]
    cases hr : ρ lt with
    | none =>
      have := kn hr (zi_fu - k - 1)
      rw [show zf_M_comesTo_l0 b 0 C lt (zi_fu - k - 1 + k + 1) 0 a S = _ from this]
      rfl
    | some v =>
      obtain ⟨v1, v2⟩ := ks v hr
      have := v2 (zi_fu - k - 1 + 1)
      rw [show zi_fu - k - 1 + 1 + k = zi_fu - k - 1 + k + 1 by omega] at this
      have this : zf_M_comesTo_l0 b 0 C lt (zi_fu - k - 1 + k + 1) 0 a S = zf_M_comesTo_l0 b 0 C lt (zi_fu - k - 1 + 1) (0 + 1) b S' := this
      rw [this, zm_end (Int.le_refl _)]
      show some (S' 0, S') = _
      rw [v1]
end
section
/-! Reading a sum: a machine with a stack, and what the class's reader does against it. -/
def yp_pk (T : Int → Int) (len p : Int) : Int := if p < len then T p else -1
def yp_dg (c : Int) : Bool := decide (48 ≤ c ∧ c ≤ 57)
theorem yp_dg_t {c : Int} : yp_dg c = true ↔ 48 ≤ c ∧ c ≤ 57 := by unfold yp_dg; rw [decide_eq_true_eq]
/-- up to so many digits -/
def yp_nm (T : Int → Int) (len : Int) : Nat → Int → Int → Int × Int
  | 0, v, p => (v, p)
  | k + 1, v, p => if yp_dg (yp_pk T len p) = true then yp_nm T len k (10 * v + yp_pk T len p - 48) (p + 1) else (v, p)
abbrev zCD : Type := Int × (Int → Int) × (Int → Int)
def yp_em (k v : Int) (c : zCD) : zCD := (c.1 + 1, zv_up c.2.1 c.1 k, zv_up c.2.2 c.1 v)
def yp_ln (j : Int) (c : zCD) : zCD := (c.1, c.2.1, zv_up c.2.2 j c.1)
def yp_ss (c : Int) : Int := if c = 43 then 2 else if c = 45 then 3 else if c = 42 then 4 else if c = 47 then 5 else if c = 37 then 6 else -1
theorem yp_ss_in (c : Int) : yp_ss c = -1 ∨ (2 ≤ yp_ss c ∧ yp_ss c ≤ 6) := by unfold yp_ss; (repeat' split) <;> decide
def yp_lt (c : Int) : Int := if c = 104 then 0 else if c = 117 then 1 else if c = 105 then 2 else if c = 109 then 3 else if c = 114 then 4 else if c = 99 then 5 else if c = 107 then 6 else if c = 110 then 7 else if c = 115 then 8 else if c = 101 then 9 else if c = 120 then 10 else if c = 121 then 11 else if c = 100 then 12 else -1
theorem yp_lt_in (c : Int) : yp_lt c = -1 ∨ (0 ≤ yp_lt c ∧ yp_lt c < 13) := by 
  by_cases h : 98 ≤ c ∧ c ≤ 125
  · have hd : ∀ k : Nat, k < 28 → yp_lt ((k : Int) + 98) = -1 ∨ (0 ≤ yp_lt ((k : Int) + 98) ∧ yp_lt ((k : Int) + 98) < 13) := by decide
    have := hd (c - 98).toNat (by omega)
    rwa [show (((c - 98).toNat : Nat) : Int) + 98 = c by omega] at this
  · left
    unfold yp_lt
    rw [if_neg (by omega), if_neg (by omega), if_neg (by omega), if_neg (by omega), if_neg (by omega), if_neg (by omega), if_neg (by omega), if_neg (by omega), if_neg (by omega), if_neg (by omega), if_neg (by omega), if_neg (by omega), if_neg (by omega)]
/-- what waits is noted: times .. rest, or all -/
def yp_cl (all : Bool) : List Int → zCD → List Int × zCD
  | [], c => ([], c)
  | s :: w, c => if (4 ≤ s ∧ s ≤ 6) ∨ (all = true ∧ (s = 2 ∨ s = 3)) then yp_cl all w (yp_em (s + 3) 0 c) else (s :: w, c)
/-- reading: true: a factor is due; false: behind one -/
def yp_S (T : Int → Int) (len : Int) : Nat → Bool → List Int → Int → Int → zCD → Option (Int ⊕ (Int × zCD))
  | 0, _, _, _, _, _ => none
  | n + 1, true, w, o, p, c => if yp_pk T len p = 91 then (if o = 6 then some (.inl (-5000 - p)) else yp_S T len n true (14 :: w) (o + 1) (p + 1) c)
    else if yp_dg (yp_pk T len p) = true then (if yp_dg (yp_pk T len (yp_nm T len 5 0 p).2) = true then some (.inl (-2000 - (yp_nm T len 5 0 p).2)) else yp_S T len n false w o (yp_nm T len 5 0 p).2 (yp_em 0 (yp_nm T len 5 0 p).1 c))
    else if yp_lt (yp_pk T len p) = -1 then some (.inl (-1000 - p)) else yp_S T len n false w o (p + 1) (yp_em 1 (yp_lt (yp_pk T len p)) c)
  | n + 1, false, w, o, p, c => if yp_ss (yp_pk T len p) ≠ -1 then yp_S T len n true (yp_ss (yp_pk T len p) :: (yp_cl (decide (yp_ss (yp_pk T len p) < 4)) w c).1) o (p + 1) (yp_cl (decide (yp_ss (yp_pk T len p) < 4)) w c).2
    else if 14 ∈ w then (if yp_pk T len p = 93 then yp_S T len n false (yp_cl true w c).1.tail (o - 1) (p + 1) (yp_cl true w c).2 else some (.inl (-1000 - p)))
    else some (.inr (p, (yp_cl true w c).2))
section ZPS
variable {T : Int → Int} {len o p : Int} {c : zCD} {w : List Int} {n : Nat}
theorem yp_S_t : yp_S T len (n + 1) true w o p c = if yp_pk T len p = 91 then (if o = 6 then some (.inl (-5000 - p)) else yp_S T len n true (14 :: w) (o + 1) (p + 1) c)
    else if yp_dg (yp_pk T len p) = true then (if yp_dg (yp_pk T len (yp_nm T len 5 0 p).2) = true then some (.inl (-2000 - (yp_nm T len 5 0 p).2)) else yp_S T len n false w o (yp_nm T len 5 0 p).2 (yp_em 0 (yp_nm T len 5 0 p).1 c))
    else if yp_lt (yp_pk T len p) = -1 then some (.inl (-1000 - p)) else yp_S T len n false w o (p + 1) (yp_em 1 (yp_lt (yp_pk T len p)) c) := rfl
theorem yp_S_f : yp_S T len (n + 1) false w o p c = if yp_ss (yp_pk T len p) ≠ -1 then yp_S T len n true (yp_ss (yp_pk T len p) :: (yp_cl (decide (yp_ss (yp_pk T len p) < 4)) w c).1) o (p + 1) (yp_cl (decide (yp_ss (yp_pk T len p) < 4)) w c).2
    else if 14 ∈ w then (if yp_pk T len p = 93 then yp_S T len n false (yp_cl true w c).1.tail (o - 1) (p + 1) (yp_cl true w c).2 else some (.inl (-1000 - p)))
    else some (.inr (p, (yp_cl true w c).2)) := rfl
def yp_tm (w : List Int) : Prop := ∀ s w', w = s :: w' → s < 4 ∨ 6 < s
def yp_ta (w : List Int) : Prop := ∀ s w', w = s :: w' → s < 2 ∨ 6 < s
def yp_al (_ : List Int) : Prop := True
theorem yp_cl_c {all : Bool} {s : Int} : yp_cl all (s :: w) c = if (4 ≤ s ∧ s ≤ 6) ∨ (all = true ∧ (s = 2 ∨ s = 3)) then yp_cl all w (yp_em (s + 3) 0 c) else (s :: w, c) := rfl
theorem yp_cl_n (h : yp_tm w) : yp_cl false w c = (w, c) := by
  cases w with
  | nil => rfl
  | cons s w =>
    rw [yp_cl_c, if_neg]
    intro hh
    have := h s w rfl
    rcases hh with h1 | ⟨h1, _⟩
    · omega
    · cases h1
theorem yp_cl_a (h : yp_ta w) : yp_cl true w c = (w, c) := by
  cases w with
  | nil => rfl
  | cons s w =>
    rw [yp_cl_c, if_neg]
    intro hh
    have := h s w rfl
    rcases hh with h1 | ⟨_, h1⟩ <;> omega
theorem yp_S_mul {s : Int} (h : 4 ≤ s ∧ s ≤ 6) : yp_S T len n false (s :: w) o p c = yp_S T len n false w o p (yp_em (s + 3) 0 c) := by
  cases n with
  | zero => rfl
  | succ n =>
    have e : (14 ∈ s :: w) ↔ 14 ∈ w := by
      rw [List.mem_cons]
      exact ⟨fun q => q.elim (fun e => by omega) id, Or.inr⟩
    have q : ∀ all, yp_cl all (s :: w) c = yp_cl all w (yp_em (s + 3) 0 c) := fun all => by rw [yp_cl_c, if_pos (Or.inl h)]
    rw [yp_S_f, yp_S_f, q, q]
    by_cases hm : 14 ∈ w
    · rw [if_pos hm, if_pos (e.mpr hm)]
    · rw [if_neg hm, if_neg (fun k => hm (e.mp k))]
theorem yp_S_add {s : Int} (h : s = 2 ∨ s = 3) (hn : yp_ss (yp_pk T len p) < 4) : yp_S T len n false (s :: w) o p c = yp_S T len n false w o p (yp_em (s + 3) 0 c) := by
  cases n with
  | zero => rfl
  | succ n =>
    have e : (14 ∈ s :: w) ↔ 14 ∈ w := by
      rw [List.mem_cons]
      exact ⟨fun q => q.elim (fun e => by omega) id, Or.inr⟩
    have q : yp_cl true (s :: w) c = yp_cl true w (yp_em (s + 3) 0 c) := by rw [yp_cl_c, if_pos (Or.inr ⟨rfl, h⟩)]
    rw [yp_S_f, yp_S_f, decide_eq_true hn, q]
    by_cases hm : 14 ∈ w
    · rw [if_pos hm, if_pos (e.mpr hm)]
    · rw [if_neg hm, if_neg (fun k => hm (e.mp k))]
end ZPS
/-! The class's small readers. -/
section ZES
variable {T K V : Int → Int} {len p c k v : Int}
theorem ze_peek (h1 : 0 ≤ p) (h2 : len ≤ 220) : zf_LawReader_peek p len T = some (yp_pk T len p) := by
  unfold zf_LawReader_peek yp_pk
  rw [if_neg (by omega)]
  by_cases h : p < len
  · rw [if_pos h, if_pos h, zl_ci h1 (by omega)]
  · rw [if_neg h, if_neg h]
theorem ze_isDigit : zf_LawReader_isDigit c = some (if yp_dg c = true then 1 else 0) := by
  unfold zf_LawReader_isDigit
  by_cases a : c < 48
  · rw [if_pos a, if_neg (fun h => by have := yp_dg_t.mp h; omega)]
  · rw [if_neg a]
    by_cases b : 57 < c
    · rw [if_pos b, if_neg (fun h => by have := yp_dg_t.mp h; omega)]
    · rw [if_neg b, if_pos (yp_dg_t.mpr (by omega))]
theorem ze_fail (h1 : 0 ≤ p) (h2 : p ≤ 220) (k1 : 0 ≤ k) (k2 : k ≤ 6) : zf_LawReader_fail k 0 p = some (-1000 * k - p) := by
  unfold zf_LawReader_fail zf_X_faultAt
  rw [if_pos rfl, zl_b, zi_w_id (x := -1000 * k) (by omega) (by omega), zi_w_id (by omega) (by omega)]
theorem ze_skip (h1 : 0 ≤ p) (h2 : p ≤ 220) (h3 : len ≤ 220) : zf_LawReader_skip c 0 p len T = some (if yp_pk T len p = c then (0, p + 1) else (-1000 - p, p)) := by
  unfold zf_LawReader_skip
  rw [if_pos rfl, ze_peek h1 h3, zl_b]
  by_cases h : yp_pk T len p = c
  · rw [if_pos h, if_pos h, zi_w_id (by omega) (by omega)]
  · rw [if_neg h, if_neg h, ze_fail h1 h2 (by decide) (by decide), zl_b]
    rfl
theorem ze_skipf {f : Int} (hf : f ≠ 0) : zf_LawReader_skip c f p len T = some (f, p) := by
  unfold zf_LawReader_skip
  rw [if_neg hf]
theorem ze_addStep (h1 : 0 ≤ c) (h2 : c < 200) : zf_Law_addStep k v c K V = some (c, c + 1, zv_up K c k, zv_up V c v) := by
  unfold zf_Law_addStep
  rw [if_pos h2, zl_ci h1 (by omega), zi_w_id (x := c + 1) (by omega) (by omega), zi_w_id (by omega) (by omega), show c + 1 - 1 = c by omega]
theorem ze_addStep_a (h1 : 0 ≤ c) (h2 : c ≤ 200) : ∃ a c' K' V', zf_Law_addStep k v c K V = some (a, c', K', V') ∧ 0 ≤ c' ∧ c' ≤ 200 ∧ -1 ≤ a ∧ a < 200 := by
  by_cases h : c < 200
  · exact ⟨_, _, _, _, ze_addStep h1 h, by omega, by omega, by omega, by omega⟩
  · refine ⟨c - 1, c, K, V, ?_, h1, h2, by omega, by omega⟩
    unfold zf_Law_addStep
    rw [if_neg h, zi_w_id (by omega) (by omega)]
def yp_bd : Nat → Int
  | 0 => 99999
  | 1 => 9999
  | 2 => 999
  | 3 => 99
  | 4 => 9
  | _ => 0
theorem yp_bd_s : ∀ k, k < 5 → 10 * yp_bd (k + 1) + 9 ≤ yp_bd k ∧ yp_bd k ≤ 99999 := by decide
theorem yp_nm_in : ∀ (k : Nat) (v p : Int), k ≤ 5 → 0 ≤ v → v ≤ yp_bd k → p ≤ len → (0 ≤ (yp_nm T len k v p).1 ∧ (yp_nm T len k v p).1 ≤ 99999) ∧ p ≤ (yp_nm T len k v p).2 ∧ (yp_nm T len k v p).2 ≤ p + k ∧ (yp_nm T len k v p).2 ≤ len := by
  intro k
  induction k with
  | zero => intro v p _ v1 v2 hp; exact ⟨⟨v1, v2⟩, Int.le_refl _, by show p ≤ p + ((0 : Nat) : Int); omega, hp⟩
  | succ k ih =>
    intro v p hk v1 v2 hp
    obtain ⟨b1, b2⟩ := yp_bd_s k (by omega)
    unfold yp_nm
    by_cases h : yp_dg (yp_pk T len p) = true
    · rw [if_pos h]
      have hd := yp_dg_t.mp h
      have hp2 : p < len := by
        apply Int.not_le.mp
        intro hh
        unfold yp_pk at hd
        rw [if_neg (by omega)] at hd
        omega
      obtain ⟨a1, a2, a3, a4⟩ := ih (10 * v + yp_pk T len p - 48) (p + 1) (by omega) (by omega) (by omega) (by omega)
      exact ⟨a1, by omega, by omega, a4⟩
    · rw [if_neg h]
      exact ⟨⟨v1, by show v ≤ 99999; omega⟩, Int.le_refl _, by show p ≤ p + ((k + 1 : Nat) : Int); omega, hp⟩
theorem yp_nm_lt {v : Int} {k : Nat} (h : yp_dg (yp_pk T len p) = true) (hk : k ≤ 4) (v1 : 0 ≤ v) (v2 : v ≤ yp_bd (k + 1)) : p < (yp_nm T len (k + 1) v p).2 := by
  unfold yp_nm
  rw [if_pos h]
  have hd := yp_dg_t.mp h
  obtain ⟨b1, b2⟩ := yp_bd_s k (by omega)
  have hp2 : p < len := by
    apply Int.not_le.mp
    intro hh
    unfold yp_pk at hd
    rw [if_neg (by omega)] at hd
    omega
  have := (yp_nm_in (T := T) (len := len) k (10 * v + yp_pk T len p - 48) (p + 1) (by omega) (by omega) (by omega) (by omega)).2.1
  omega
theorem ze_rn_l0 (hl : len ≤ 220) : ∀ (k : Nat) (v d p : Int) (n : Nat), d + k = 5 → k ≤ 5 → k < n → 0 ≤ v → v ≤ yp_bd k → 0 ≤ p → p ≤ len → zf_LawReader_readNumber_l0 len T n v d p = some (yp_nm T len k v p) := by
  intro k
  induction k with
  | zero =>
    intro v d p n e _ hn _ _ _ _
    obtain ⟨n, rfl⟩ : ∃ q, n = q + 1 := ⟨n - 1, by omega⟩
    show zf_LawReader_readNumber_l0_b len T (zf_LawReader_readNumber_l0 len T n) v d p = _
    unfold zf_LawReader_readNumber_l0_b
    rw [if_neg (by omega)]
    rfl
  | succ k ih =>
    intro v d p n e hk hn v1 v2 p1 p2
    obtain ⟨n, rfl⟩ : ∃ q, n = q + 1 := ⟨n - 1, by omega⟩
    show zf_LawReader_readNumber_l0_b len T (zf_LawReader_readNumber_l0 len T n) v d p = _
    unfold zf_LawReader_readNumber_l0_b yp_nm
    obtain ⟨b1, b2⟩ := yp_bd_s k (by omega)
    rw [if_pos (by omega), ze_peek p1 hl, zl_b, ze_isDigit, zl_b]
    by_cases h : yp_dg (yp_pk T len p) = true
    · rw [if_pos h, if_pos h, if_neg (by decide), zl_b]
      have hd := yp_dg_t.mp h
      have hp2 : p < len := by
        apply Int.not_le.mp
        intro hh
        unfold yp_pk at hd
        rw [if_neg (by omega)] at hd
        omega
      rw [zi_w_id (x := 10 * v) (by omega) (by omega), zi_w_id (x := 10 * v + yp_pk T len p) (by omega) (by omega), zi_w_id (x := 10 * v + yp_pk T len p - 48) (by omega) (by omega), zi_w_id (x := d + 1) (by omega) (by omega), zi_w_id (x := p + 1) (by omega) (by omega)]
      exact ih _ _ _ _ (by omega) (by omega) (by omega) (by omega) (by omega) (by omega) (by omega)
    · rw [if_neg h, if_neg h, if_pos rfl]
theorem ze_readNumber (hl : len ≤ 200) (p1 : 0 ≤ p) (p2 : p ≤ len) (c1 : 0 ≤ c) (c2 : c < 200) : zf_LawReader_readNumber p len c 0 T K V = some ((yp_nm T len 5 0 p).2, c + 1, (if yp_dg (yp_pk T len (yp_nm T len 5 0 p).2) = true then -2000 - (yp_nm T len 5 0 p).2 else 0), zv_up K c 0, zv_up V c (yp_nm T len 5 0 p).1) := by
  obtain ⟨a1, a2, a3, a4⟩ := yp_nm_in (T := T) (len := len) 5 0 p (by decide) (by decide) (by decide) p2
  unfold zf_LawReader_readNumber
  rw [ze_rn_l0 (T := T) (by omega) 5 0 0 p zi_fu rfl (by decide) (by decide) (by decide) (by decide) p1 p2, zl_b, ze_peek (by omega) (by omega), zl_b, ze_isDigit, zl_b]
  by_cases h : yp_dg (yp_pk T len (yp_nm T len 5 0 p).2) = true
  · rw [if_pos h, if_pos h, if_neg (by decide), ze_fail (by omega) (by omega) (by decide) (by decide), zl_b, ze_addStep c1 c2, zl_b]
    rfl
  · rw [if_neg h, if_neg h, if_pos rfl, ze_addStep c1 c2, zl_b]
theorem ze_letter (h1 : 0 ≤ c) (h2 : c ≤ 255) : zi_letter (zi_ch c) = yp_lt c := by
  have h : ∀ k : Nat, k < 256 → zi_letter (zi_ch (k : Int)) = yp_lt (k : Int) := by decide +kernel
  have := h c.toNat (by omega)
  rwa [show ((c.toNat : Nat) : Int) = c by omega] at this
end ZES
end
section
/-! Factors, terms and sums: the class's reader goes as the machine goes. -/
def yp_okE (T : Int → Int) (len o nd : Int) (W : List Int → Prop) (N : Int → Prop) (p : Int) (c : zCD) (p' : Int) (c' : zCD) : Prop :=
  p < p' ∧ c.1 < c'.1 ∧ c'.1 - c.1 ≤ p' - p ∧ (∀ j, j < c.1 → c'.2.1 j = c.2.1 j ∧ c'.2.2 j = c.2.2 j) ∧ (∃ ρ, zd_seg false c'.2.1 c'.2.2 c.1 c'.1 nd ρ) ∧ N (yp_pk T len p') ∧
  ∀ w, W w → ∃ k : Nat, (k : Int) ≤ p' - p ∧ ∀ n, yp_S T len (n + k) true w o p c = yp_S T len n false w o p' c'
def yp_noE (T : Int → Int) (len o : Int) (W : List Int → Prop) (p : Int) (c : zCD) (f : Int) : Prop :=
  ∀ w, W w → ∃ k : Nat, (k : Int) ≤ len - p ∧ ∀ n, yp_S T len (n + k + 1) true w o p c = some (.inl f)
def yp_E (T : Int → Int) (len o nd : Int) (W : List Int → Prop) (N : Int → Prop) (p : Int) (c : zCD) (r : Int × Int × zCD) : Prop :=
  (0 ≤ r.2.1 ∧ r.2.1 ≤ len) ∧ (0 ≤ r.2.2.1 ∧ r.2.2.1 ≤ 200) ∧ (r.1 = 0 → yp_okE T len o nd W N p c r.2.1 r.2.2) ∧ (r.1 ≠ 0 → yp_noE T len o W p c r.1)
def yp_any (_ : Int) : Prop := True
def yp_nom (x : Int) : Prop := yp_ss x < 4
def yp_nos (x : Int) : Prop := yp_ss x = -1
section ZPE
variable {T : Int → Int} {len o nd nd2 : Int} {W W2 : List Int → Prop} {N N2 : Int → Prop} {p0 p s kk : Int} {c0 c : zCD} {r : Int × Int × zCD}
theorem yp_E_N (h : yp_E T len o nd W N2 p0 c0 r) (k : r.1 = 0 → N (yp_pk T len r.2.1)) : yp_E T len o nd W N p0 c0 r :=
  ⟨h.1, h.2.1, fun e => (by
    obtain ⟨q1, q2, q3, q4, q5, q6, q7⟩ := h.2.2.1 e
    exact ⟨q1, q2, q3, q4, q5, k e, q7⟩), h.2.2.2⟩
theorem yp_E_W (h : yp_E T len o nd W N p0 c0 r) (hn : nd ≤ nd2) (k : ∀ w, W2 w → W w) : yp_E T len o nd2 W2 N p0 c0 r :=
  ⟨h.1, h.2.1, fun e => (by
    obtain ⟨q1, q2, q3, q4, ⟨ρ, q5⟩, q6, q7⟩ := h.2.2.1 e
    exact ⟨q1, q2, q3, q4, ⟨ρ, zd_seg_nd q5 hn⟩, q6, fun w hw => q7 w (k w hw)⟩), fun e w hw => h.2.2.2 e w (k w hw)⟩
theorem yp_pk_lt (h : yp_pk T len p ≠ -1) : p < len := by
  apply Int.not_le.mp
  intro hh
  apply h
  unfold yp_pk
  rw [if_neg (by omega)]
theorem yp_E_step (hl : len ≤ 200) (h0 : c0.1 ≤ p0) (hs : yp_E T len o nd W N p0 c0 (0, p, c)) (hp : p < len) (hss : yp_ss (T p) = s) (s1 : 2 ≤ s) (s2 : s ≤ 6) (hk : kk = s + 3) (hr : yp_E T len o nd2 W2 N2 (p + 1) c r)
    (hW : ∀ w, W w → W2 (s :: w) ∧ yp_cl (decide (s < 4)) w c = (w, c)) (hM : ∀ w c' p', N2 (yp_pk T len p') → ∀ n, yp_S T len n false (s :: w) o p' c' = yp_S T len n false w o p' (yp_em kk 0 c')) (hn : nd2 + 1 ≤ nd) (hn1 : 1 ≤ nd2) :
    (r.1 = 0 → (0 ≤ r.2.2.1 ∧ r.2.2.1 < 200 ∧ p + 1 < r.2.1) ∧ yp_E T len o nd W yp_any p0 c0 (0, r.2.1, yp_em kk 0 r.2.2)) ∧ (r.1 ≠ 0 → ∀ c'' : zCD, 0 ≤ c''.1 → c''.1 ≤ 200 → yp_E T len o nd W N p0 c0 (r.1, r.2.1, c'')) := by
  obtain ⟨⟨p1, p2⟩, ⟨c1, c2⟩, hs, -⟩ := hs
  obtain ⟨a1, a2, a3, a4, ⟨ρ1, a5⟩, -, a7⟩ := hs rfl
  obtain ⟨⟨r1, r2⟩, ⟨r3, r4⟩, ro, rb⟩ := hr
  have a3 : c.1 - c0.1 ≤ p - p0 := a3
  have a2 : c0.1 < c.1 := a2
  have a1 : p0 < p := a1
  have p2 : p ≤ len := p2
  have pk : yp_pk T len p = T p := if_pos hp
  have one : ∀ w, W w → ∀ n, yp_S T len (n + 1) false w o p c = yp_S T len n true (s :: w) o (p + 1) c := fun w hw n => by
    rw [yp_S_f, pk, hss, if_pos (by omega), (hW w hw).2]
  refine ⟨fun e => ?_, fun e c'' d1 d2 => ?_⟩
  · obtain ⟨b1, b2, b3, b4, ⟨ρ2, b5⟩, b6, b7⟩ := ro e
    refine ⟨⟨r3, by omega, b1⟩, ⟨r1, r2⟩, ⟨?_, ?_⟩, fun _ => ⟨?_, ?_, ?_, fun j hj => ?_, ⟨_, zg_bin (nd2 := nd2) (b := c.1) (c := r.2.2.1) (ρ1 := ρ1) (ρ2 := ρ2) ?_ ?_ ?_ ?_ ?_ hn hn1 (fun h => by cases h)⟩, trivial, fun w hw => ?_⟩, fun h => absurd rfl h⟩
    · show 0 ≤ r.2.2.1 + 1; omega
    · show r.2.2.1 + 1 ≤ 200; omega
    · show p0 < r.2.1; omega
    · show c0.1 < r.2.2.1 + 1; omega
    · show r.2.2.1 + 1 - c0.1 ≤ r.2.1 - p0; omega
    · have q1 := b4 j (by omega)
      have q2 := a4 j hj
      exact ⟨(zv_up_n (show j ≠ r.2.2.1 by omega)).trans (q1.1.trans q2.1), (zv_up_n (show j ≠ r.2.2.1 by omega)).trans (q1.2.trans q2.2)⟩
    · exact zd_seg_fr a5 fun j j1 j2 => ⟨(zv_up_n (show j ≠ r.2.2.1 by omega)).trans (b4 j j2).1, (zv_up_n (show j ≠ r.2.2.1 by omega)).trans (b4 j j2).2⟩
    · exact zd_seg_fr b5 fun j j1 j2 => ⟨zv_up_n (show j ≠ r.2.2.1 by omega), zv_up_n (show j ≠ r.2.2.1 by omega)⟩
    · show 5 ≤ zv_up r.2.2.2.1 r.2.2.1 kk r.2.2.1
      rw [zv_up_s]; omega
    · show zv_up r.2.2.2.1 r.2.2.1 kk r.2.2.1 ≤ 12
      rw [zv_up_s]; omega
    · exact zv_up_s
    · obtain ⟨k1, l1, u1⟩ := a7 w hw
      obtain ⟨k2, l2, u2⟩ := b7 (s :: w) (hW w hw).1
      have l1 : (k1 : Int) ≤ p - p0 := l1
      refine ⟨k1 + 1 + k2, by show ((k1 + 1 + k2 : Nat) : Int) ≤ r.2.1 - p0; omega, fun n => ?_⟩
      rw [show n + (k1 + 1 + k2) = (n + k2 + 1) + k1 by omega, u1]
      show yp_S T len (n + k2 + 1) false w o p c = _
      rw [one w hw, u2, hM w _ _ b6]
  · refine ⟨⟨r1, r2⟩, ⟨d1, d2⟩, fun h => absurd h e, fun _ w hw => ?_⟩
    obtain ⟨k1, l1, u1⟩ := a7 w hw
    obtain ⟨k2, l2, u2⟩ := rb e (s :: w) (hW w hw).1
    have l1 : (k1 : Int) ≤ p - p0 := l1
    refine ⟨k1 + 1 + k2, by omega, fun n => ?_⟩
    rw [show n + (k1 + 1 + k2) + 1 = ((n + k2 + 1) + 1) + k1 by omega, u1]
    show yp_S T len (n + k2 + 1 + 1) false w o p c = _
    rw [one w hw, u2]
end ZPE
abbrev zRC : Type := Nat → Int → Int → Int → Int → Int → (Int → Int) → (Int → Int) → (Int → Int) → Option (Int × Int × Int × (Int → Int) × (Int → Int))
/-- a reader that goes as the machine goes -/
def yr_is (R : Int → zCD → Option (Int × Int × zCD)) (T : Int → Int) (len o nd : Int) (W : List Int → Prop) (N : Int → Prop) : Prop := ∀ (p : Int) (c : zCD), 0 ≤ p → p ≤ len → 0 ≤ c.1 → c.1 ≤ p → zh_ok (R p c) (yp_E T len o nd W N p c)
section ZRT
variable {rc : zRC} {T : Int → Int} {len o : Int}
theorem yr_term_f {n : Nat} {f p c : Int} {K V : Int → Int} (hf : f ≠ 0) : zm_LawReader_readTerm_l0 rc o len T (n + 1) f p c K V = some (f, p, c, K, V) := by
  show zm_LawReader_readTerm_l0_b rc o len T (zm_LawReader_readTerm_l0 rc o len T n) f p c K V = _
  unfold zm_LawReader_readTerm_l0_b
  rw [if_neg hf]
theorem yr_term_l (hl : len ≤ 200) (ho : o ≤ 6) (hF : yr_is (fun p c => rc 2 o 0 p len c.1 T c.2.1 c.2.2) T len o (13 - 2 * o) yp_al yp_any) {p0 : Int} {c0 : zCD} (h0 : c0.1 ≤ p0) (h00 : 0 ≤ c0.1) : ∀ (m : Nat) (f p : Int) (c : zCD) (n : Nat), len - p ≤ m → m < n → yp_E T len o (14 - 2 * o) yp_tm yp_any p0 c0 (f, p, c) →
    zh_ok (zm_LawReader_readTerm_l0 rc o len T n f p c.1 c.2.1 c.2.2) (yp_E T len o (14 - 2 * o) yp_tm yp_nom p0 c0) := by
  intro m
  induction m with
  | zero =>
    intro f p c n hm hn hs
    obtain ⟨n, rfl⟩ : ∃ q, n = q + 1 := ⟨n - 1, by omega⟩
    by_cases hf : f = 0
    · show zh_ok (zm_LawReader_readTerm_l0_b rc o len T (zm_LawReader_readTerm_l0 rc o len T n) f p c.1 c.2.1 c.2.2) _
      unfold zm_LawReader_readTerm_l0_b
      rw [if_pos hf, if_neg (by omega)]
      exact zh_ret (yp_E_N hs fun _ => by
        show yp_ss (yp_pk T len p) < 4
        unfold yp_pk
        rw [if_neg (by omega)]; decide)
    · rw [yr_term_f hf]
      exact zh_ret (yp_E_N hs fun h => absurd h hf)
  | succ m ih =>
    intro f p c n hm hn hs
    obtain ⟨n, rfl⟩ : ∃ q, n = q + 1 := ⟨n - 1, by omega⟩
    by_cases hf : f = 0
    · subst hf
      by_cases hp : p < len
      · have p1 : 0 ≤ p := hs.1.1
        have c1 : 0 ≤ c.1 := hs.2.1.1
        have cp : c.1 ≤ p := by
          obtain ⟨a1, a2, a3, -⟩ := hs.2.2.1 rfl
          have a1 : p0 < p := a1
          have a3 : c.1 - c0.1 ≤ p - p0 := a3
          omega
        have pk : yp_pk T len p = T p := if_pos hp
        show zh_ok (zm_LawReader_readTerm_l0_b rc o len T (zm_LawReader_readTerm_l0 rc o len T n) 0 p c.1 c.2.1 c.2.2) _
        unfold zm_LawReader_readTerm_l0_b
        rw [if_pos rfl, if_pos hp, zl_ci p1 (by omega), zi_w_id (x := p + 1) (by omega) (by omega)]
        have step : ∀ s kk, 4 ≤ s → s ≤ 6 → kk = s + 3 → yp_ss (T p) = s → zh_ok ((rc 2 o 0 (p + 1) len c.1 T c.2.1 c.2.2).bind fun r7 => ((zf_Law_addStep kk 0 r7.2.2.1 r7.2.2.2.1 r7.2.2.2.2).bind fun r8 => (zm_LawReader_readTerm_l0 rc o len T n r7.1 r7.2.1 r8.2.1 r8.2.2.1 r8.2.2.2))) (yp_E T len o (14 - 2 * o) yp_tm yp_nom p0 c0) := by
          intro s kk s1 s2 hk hss
          refine zh_bind (hF (p + 1) c (by omega) (by omega) c1 (by omega)) fun r hr => ?_
          obtain ⟨q1, q2⟩ := yp_E_step hl h0 hs hp hss (by omega) s2 hk hr (fun w hw => ⟨trivial, by rw [decide_eq_false (by omega)]; exact yp_cl_n hw⟩) (fun w c' p' _ n => by rw [hk]; exact yp_S_mul ⟨s1, s2⟩) (by omega) (by omega)
          by_cases he : r.1 = 0
          · obtain ⟨⟨b1, b2, b3⟩, q1⟩ := q1 he
            rw [ze_addStep b1 b2, zl_b, he]
            exact ih 0 r.2.1 (yp_em kk 0 r.2.2) n (by omega) (by omega) q1
          · obtain ⟨a, c', K', V', e1, e2, e3, -⟩ := ze_addStep_a (k := kk) (v := 0) (K := r.2.2.2.1) (V := r.2.2.2.2) hr.2.1.1 hr.2.1.2
            rw [e1, zl_b]
            obtain ⟨n, rfl⟩ : ∃ q, n = q + 1 := ⟨n - 1, by omega⟩
            rw [yr_term_f he]
            exact zh_ret (yp_E_N (q2 he (c', K', V') e2 e3) fun h => absurd h he)
        by_cases h42 : T p = 42
        · rw [if_pos h42]
          exact step 4 7 (by decide) (by decide) rfl (by rw [h42]; rfl)
        rw [if_neg h42]
        by_cases h47 : T p = 47
        · rw [if_pos h47]
          exact step 5 8 (by decide) (by decide) rfl (by rw [h47]; rfl)
        rw [if_neg h47]
        by_cases h37 : T p = 37
        · rw [if_pos h37]
          exact step 6 9 (by decide) (by decide) rfl (by rw [h37]; rfl)
        rw [if_neg h37]
        exact zh_ret (yp_E_N hs fun _ => by
          show yp_ss (yp_pk T len p) < 4
          rw [pk]
          unfold yp_ss
          rw [if_neg h42, if_neg h47, if_neg h37]
          (repeat' split) <;> decide)
      · show zh_ok (zm_LawReader_readTerm_l0_b rc o len T (zm_LawReader_readTerm_l0 rc o len T n) 0 p c.1 c.2.1 c.2.2) _
        unfold zm_LawReader_readTerm_l0_b
        rw [if_pos rfl, if_neg hp]
        exact zh_ret (yp_E_N hs fun _ => by
          show yp_ss (yp_pk T len p) < 4
          unfold yp_pk
          rw [if_neg hp]; decide)
    · rw [yr_term_f hf]
      exact zh_ret (yp_E_N hs fun h => absurd h hf)
theorem yr_term (hl : len ≤ 200) (ho : o ≤ 6) (hF : yr_is (fun p c => rc 2 o 0 p len c.1 T c.2.1 c.2.2) T len o (13 - 2 * o) yp_al yp_any) : yr_is (fun p c => zm_LawReader_readTerm rc o 0 p len c.1 T c.2.1 c.2.2) T len o (14 - 2 * o) yp_tm yp_nom := by
  intro p c p1 p2 c1 c2
  show zh_ok (zm_LawReader_readTerm rc o 0 p len c.1 T c.2.1 c.2.2) _
  unfold zm_LawReader_readTerm
  refine zh_bind (hF p c p1 p2 c1 c2) fun r hr => ?_
  refine zh_bind (yr_term_l hl ho hF c2 c1 (len - r.2.1).toNat r.1 r.2.1 r.2.2 zi_fu (by omega) (by have := hr.1.1; have : 1000 < zi_fu := (by decide); omega) (yp_E_W hr (by omega) fun _ _ => trivial)) fun q hq => zh_ret hq
/-! sums -/
theorem yr_sum_f {n : Nat} {f p c : Int} {K V : Int → Int} (hf : f ≠ 0) : zm_LawReader_readSum_l0 rc o len T (n + 1) f p c K V = some (f, p, c, K, V) := by
  show zm_LawReader_readSum_l0_b rc o len T (zm_LawReader_readSum_l0 rc o len T n) f p c K V = _
  unfold zm_LawReader_readSum_l0_b
  rw [if_neg hf]
theorem yr_sum_l (hl : len ≤ 200) (ho : o ≤ 6) (hF : yr_is (fun p c => rc 1 o 0 p len c.1 T c.2.1 c.2.2) T len o (14 - 2 * o) yp_tm yp_nom) {p0 : Int} {c0 : zCD} (h0 : c0.1 ≤ p0) (h00 : 0 ≤ c0.1) : ∀ (m : Nat) (f p : Int) (c : zCD) (n : Nat), len - p ≤ m → m < n → yp_E T len o (15 - 2 * o) yp_ta yp_nom p0 c0 (f, p, c) →
    zh_ok (zm_LawReader_readSum_l0 rc o len T n f p c.1 c.2.1 c.2.2) (yp_E T len o (15 - 2 * o) yp_ta yp_nos p0 c0) := by
  intro m
  induction m with
  | zero =>
    intro f p c n hm hn hs
    obtain ⟨n, rfl⟩ : ∃ q, n = q + 1 := ⟨n - 1, by omega⟩
    by_cases hf : f = 0
    · show zh_ok (zm_LawReader_readSum_l0_b rc o len T (zm_LawReader_readSum_l0 rc o len T n) f p c.1 c.2.1 c.2.2) _
      unfold zm_LawReader_readSum_l0_b
      rw [if_pos hf, if_neg (by omega)]
      exact zh_ret (yp_E_N hs fun _ => by
        show yp_ss (yp_pk T len p) = -1
        unfold yp_pk
        rw [if_neg (by omega)]; decide)
    · rw [yr_sum_f hf]
      exact zh_ret (yp_E_N hs fun h => absurd h hf)
  | succ m ih =>
    intro f p c n hm hn hs
    obtain ⟨n, rfl⟩ : ∃ q, n = q + 1 := ⟨n - 1, by omega⟩
    by_cases hf : f = 0
    · subst hf
      by_cases hp : p < len
      · have p1 : 0 ≤ p := hs.1.1
        have c1 : 0 ≤ c.1 := hs.2.1.1
        have hN : yp_nom (yp_pk T len p) := (hs.2.2.1 rfl).2.2.2.2.2.1
        have cp : c.1 ≤ p := by
          obtain ⟨a1, a2, a3, -⟩ := hs.2.2.1 rfl
          have a1 : p0 < p := a1
          have a3 : c.1 - c0.1 ≤ p - p0 := a3
          omega
        have pk : yp_pk T len p = T p := if_pos hp
        show zh_ok (zm_LawReader_readSum_l0_b rc o len T (zm_LawReader_readSum_l0 rc o len T n) 0 p c.1 c.2.1 c.2.2) _
        unfold zm_LawReader_readSum_l0_b
        rw [if_pos rfl, if_pos hp, zl_ci p1 (by omega), zi_w_id (x := p + 1) (by omega) (by omega)]
        have step : ∀ s kk, 2 ≤ s → s ≤ 3 → kk = s + 3 → yp_ss (T p) = s → zh_ok ((rc 1 o 0 (p + 1) len c.1 T c.2.1 c.2.2).bind fun r7 => ((zf_Law_addStep kk 0 r7.2.2.1 r7.2.2.2.1 r7.2.2.2.2).bind fun r8 => (zm_LawReader_readSum_l0 rc o len T n r7.1 r7.2.1 r8.2.1 r8.2.2.1 r8.2.2.2))) (yp_E T len o (15 - 2 * o) yp_ta yp_nos p0 c0) := by
          intro s kk s1 s2 hk hss
          refine zh_bind (hF (p + 1) c (by omega) (by omega) c1 (by omega)) fun r hr => ?_
          obtain ⟨q1, q2⟩ := yp_E_step hl h0 hs hp hss (by omega) (by omega) hk hr (fun w hw => ⟨fun s' w' e => (by cases e; omega), by rw [decide_eq_true (by omega)]; exact yp_cl_a hw⟩) (fun w c' p' hN n => by rw [hk]; exact yp_S_add (by omega) hN) (by omega) (by omega)
          by_cases he : r.1 = 0
          · have hN2 := (hr.2.2.1 he).2.2.2.2.2.1
            obtain ⟨⟨b1, b2, b3⟩, q1⟩ := q1 he
            rw [ze_addStep b1 b2, zl_b, he]
            exact ih 0 r.2.1 (yp_em kk 0 r.2.2) n (by omega) (by omega) (yp_E_N q1 fun _ => hN2)
          · obtain ⟨a, c', K', V', e1, e2, e3, -⟩ := ze_addStep_a (k := kk) (v := 0) (K := r.2.2.2.1) (V := r.2.2.2.2) hr.2.1.1 hr.2.1.2
            rw [e1, zl_b]
            obtain ⟨n, rfl⟩ : ∃ q, n = q + 1 := ⟨n - 1, by omega⟩
            rw [yr_sum_f he]
            exact zh_ret (yp_E_N (q2 he (c', K', V') e2 e3) fun h => absurd h he)
        by_cases h43 : T p = 43
        · rw [if_pos h43]
          exact step 2 5 (by decide) (by decide) rfl (by rw [h43]; rfl)
        rw [if_neg h43]
        by_cases h45 : T p = 45
        · rw [if_pos h45]
          exact step 3 6 (by decide) (by decide) rfl (by rw [h45]; rfl)
        rw [if_neg h45]
        exact zh_ret (yp_E_N hs fun _ => by
          show yp_ss (yp_pk T len p) = -1
          have hN : yp_ss (yp_pk T len p) < 4 := hN
          rw [pk] at hN ⊢
          unfold yp_ss at hN ⊢
          rw [if_neg h43, if_neg h45] at hN ⊢
          split
          · rename_i h; rw [if_pos h] at hN; exact absurd hN (by decide)
          · rename_i h; rw [if_neg h] at hN
            split
            · rename_i h; rw [if_pos h] at hN; exact absurd hN (by decide)
            · rename_i h; rw [if_neg h] at hN
              split
              · rename_i h; rw [if_pos h] at hN; exact absurd hN (by decide)
              · rfl)
      · show zh_ok (zm_LawReader_readSum_l0_b rc o len T (zm_LawReader_readSum_l0 rc o len T n) 0 p c.1 c.2.1 c.2.2) _
        unfold zm_LawReader_readSum_l0_b
        rw [if_pos rfl, if_neg hp]
        exact zh_ret (yp_E_N hs fun _ => by
          show yp_ss (yp_pk T len p) = -1
          unfold yp_pk
          rw [if_neg hp]; decide)
    · rw [yr_sum_f hf]
      exact zh_ret (yp_E_N hs fun h => absurd h hf)
theorem yr_sum (hl : len ≤ 200) (ho : o ≤ 6) (hF : yr_is (fun p c => rc 1 o 0 p len c.1 T c.2.1 c.2.2) T len o (14 - 2 * o) yp_tm yp_nom) : yr_is (fun p c => zm_LawReader_readSum rc o 0 p len c.1 T c.2.1 c.2.2) T len o (15 - 2 * o) yp_ta yp_nos := by
  intro p c p1 p2 c1 c2
  show zh_ok (zm_LawReader_readSum rc o 0 p len c.1 T c.2.1 c.2.2) _
  unfold zm_LawReader_readSum
  refine zh_bind (hF p c p1 p2 c1 c2) fun r hr => ?_
  refine zh_bind (yr_sum_l hl ho hF c2 c1 (len - r.2.1).toNat r.1 r.2.1 r.2.2 zi_fu (by omega) (by have := hr.1.1; have : 1000 < zi_fu := (by decide); omega) (yp_E_W hr (by omega) fun w hw s w' e => by have := hw s w' e; omega)) fun q hq => zh_ret hq
/-! a factor -/
theorem yr_fact (hl : len ≤ 200) (ho : o ≤ 6) (oo : 0 ≤ o) (hT : ∀ j, 0 ≤ j → j < 220 → 0 ≤ T j ∧ T j ≤ 255) (hS : o < 6 → yr_is (fun p c => rc 0 (o + 1) 0 p len c.1 T c.2.1 c.2.2) T len (o + 1) (15 - 2 * (o + 1)) yp_ta yp_nos) : yr_is (fun p c => zm_LawReader_readFactor rc o 0 p len c.1 T c.2.1 c.2.2) T len o (13 - 2 * o) yp_al yp_any := by
  intro p c p1 p2 c1 c2
  show zh_ok (zm_LawReader_readFactor rc o 0 p len c.1 T c.2.1 c.2.2) _
  unfold zm_LawReader_readFactor
  rw [if_pos rfl, ze_peek p1 (by omega), zl_b]
  by_cases h91 : yp_pk T len p = 91
  · have hp : p < len := yp_pk_lt (T := T) (by omega)
    rw [if_pos h91]
    by_cases ho6 : o < 6
    · rw [if_pos ho6, zi_w_id (x := o + 1) (by omega) (by omega), zi_w_id (x := p + 1) (by omega) (by omega)]
      refine zh_bind (hS ho6 (p + 1) c (by omega) (by omega) c1 (by omega)) fun r hr => ?_
      obtain ⟨⟨r1, r2⟩, ⟨r3, r4⟩, ro, rb⟩ := hr
      have one : ∀ w n, yp_S T len (n + 1) true w o p c = yp_S T len n true (14 :: w) (o + 1) (p + 1) c := fun w n => by
        rw [yp_S_t, if_pos h91, if_neg (by omega)]
      have ta : ∀ w, yp_ta (14 :: w) := fun w s w' e => by cases e; omega
      by_cases he : r.1 = 0
      · obtain ⟨b1, b2, b3, b4, ⟨ρ, b5⟩, b6, b7⟩ := ro he
        rw [he, ze_skip r1 (by omega) (by omega), zl_b]
        have b6 : yp_ss (yp_pk T len r.2.1) = -1 := b6
        by_cases h93 : yp_pk T len r.2.1 = 93
        · have hp3 : r.2.1 < len := yp_pk_lt (T := T) (by omega)
          rw [if_pos h93]
          refine zh_ret ⟨⟨?_, ?_⟩, ⟨r3, r4⟩, fun _ => ⟨?_, b2, ?_, b4, ⟨ρ, zd_seg_nd b5 (by omega)⟩, trivial, fun w _ => ?_⟩, fun h => absurd rfl h⟩
          · show 0 ≤ r.2.1 + 1; omega
          · show r.2.1 + 1 ≤ len; omega
          · show p < r.2.1 + 1; omega
          · show r.2.2.1 - c.1 ≤ r.2.1 + 1 - p; omega
          · obtain ⟨k, l, u⟩ := b7 (14 :: w) (ta w)
            refine ⟨1 + k + 1, by show ((1 + k + 1 : Nat) : Int) ≤ r.2.1 + 1 - p; omega, fun n => ?_⟩
            rw [show n + (1 + k + 1) = (n + 1 + k) + 1 by omega, one, u, yp_S_f, b6, if_neg (fun h => h rfl), if_pos (List.mem_cons_self), if_pos h93, yp_cl_a (ta w), show o + 1 - 1 = o by omega]
            rfl
        · rw [if_neg h93]
          refine zh_ret ⟨⟨r1, r2⟩, ⟨r3, r4⟩, fun h => ?_, fun _ w _ => ?_⟩
          · have h : -1000 - r.2.1 = 0 := h
            omega
          · obtain ⟨k, l, u⟩ := b7 (14 :: w) (ta w)
            refine ⟨1 + k, by omega, fun n => ?_⟩
            rw [show n + (1 + k) + 1 = (n + 1 + k) + 1 by omega, one, u, yp_S_f, b6, if_neg (fun h => h rfl), if_pos (List.mem_cons_self), if_neg h93]
      · rw [ze_skipf he, zl_b]
        refine zh_ret ⟨⟨r1, r2⟩, ⟨r3, r4⟩, fun h => absurd h he, fun _ w _ => ?_⟩
        obtain ⟨k, l, u⟩ := rb he (14 :: w) (ta w)
        refine ⟨1 + k, by omega, fun n => ?_⟩
        rw [show n + (1 + k) + 1 = (n + k + 1) + 1 by omega, one, u]
    · rw [if_neg ho6, ze_fail p1 (by omega) (by decide) (by decide), zl_b]
      refine zh_ret ⟨⟨p1, p2⟩, ⟨c1, (show c.1 ≤ 200 by omega)⟩, fun h => ?_, fun _ w _ => ⟨0, by omega, fun n => ?_⟩⟩
      · have h : -1000 * 5 - p = 0 := h
        omega
      · show yp_S T len (n + 1) true w o p c = some (.inl (-1000 * 5 - p))
        rw [yp_S_t, if_pos h91, if_pos (by omega)]
        rfl
  · rw [if_neg h91, ze_isDigit, zl_b]
    by_cases hd : yp_dg (yp_pk T len p) = true
    · rw [if_pos hd, if_neg (by decide)]
      have hdd := yp_dg_t.mp hd
      have hp : p < len := yp_pk_lt (T := T) (by omega)
      obtain ⟨a1, a2, a3, a4⟩ := yp_nm_in (T := T) (len := len) 5 0 p (by decide) (by decide) (by decide) p2
      have a5 := yp_nm_lt (T := T) (k := 4) hd (by decide) (by decide : (0 : Int) ≤ 0) (by decide)
      rw [ze_readNumber hl p1 p2 c1 (by omega), zl_b]
      have a5 : p < (yp_nm T len 5 0 p).2 := a5
      generalize hq : yp_nm T len 5 0 p = q at a1 a2 a3 a4 a5 ⊢
      by_cases h6 : yp_dg (yp_pk T len q.2) = true
      · rw [if_pos h6]
        refine zh_ret ⟨⟨?_, a4⟩, ⟨?_, ?_⟩, fun h => ?_, fun _ w _ => ⟨0, by omega, fun n => ?_⟩⟩
        · show 0 ≤ q.2; omega
        · show 0 ≤ c.1 + 1; omega
        · show c.1 + 1 ≤ 200; omega
        · have h : -2000 - q.2 = 0 := h
          omega
        · show yp_S T len (n + 1) true w o p c = some (.inl (-2000 - q.2))
          rw [yp_S_t, if_neg h91, if_pos hd, hq, if_pos h6]
      · rw [if_neg h6]
        refine zh_ret ⟨⟨?_, a4⟩, ⟨?_, ?_⟩, fun _ => ⟨a5, ?_, ?_, fun j hj => ⟨zv_up_n (by omega), zv_up_n (by omega)⟩, ⟨_, zd_seg_nd (zg_num (K := zv_up c.2.1 c.1 0) (V := zv_up c.2.2 c.1 q.1) c1 zv_up_s (by rw [zv_up_s]; omega) (by rw [zv_up_s]; omega)) (by omega)⟩, trivial, fun w _ => ⟨1, ?_, fun n => ?_⟩⟩, fun h => absurd rfl h⟩
        · show 0 ≤ q.2; omega
        · show 0 ≤ c.1 + 1; omega
        · show c.1 + 1 ≤ 200; omega
        · show c.1 < c.1 + 1; omega
        · show c.1 + 1 - c.1 ≤ q.2 - p; omega
        · show ((1 : Nat) : Int) ≤ q.2 - p; omega
        · rw [yp_S_t, if_neg h91, if_pos hd, hq, if_neg h6]
          rfl
    · rw [if_neg hd, if_pos rfl]
      by_cases hm : yp_pk T len p = -1
      · rw [if_pos hm, ze_fail p1 (by omega) (by decide) (by decide), zl_b]
        refine zh_ret ⟨⟨p1, p2⟩, ⟨c1, (show c.1 ≤ 200 by omega)⟩, fun h => ?_, fun _ w _ => ⟨0, by omega, fun n => ?_⟩⟩
        · have h : -1000 * 1 - p = 0 := h
          omega
        · show yp_S T len (n + 1) true w o p c = some (.inl (-1000 * 1 - p))
          rw [yp_S_t, if_neg h91, if_neg hd, hm, if_pos (by decide)]
          rfl
      · have hp : p < len := yp_pk_lt hm
        have pk : yp_pk T len p = T p := if_pos hp
        have hTp := hT p p1 (by omega)
        rw [if_neg hm, ze_letter (by omega) (by omega)]
        by_cases hl1 : yp_lt (yp_pk T len p) = -1
        · rw [if_pos hl1, ze_fail p1 (by omega) (by decide) (by decide), zl_b]
          refine zh_ret ⟨⟨p1, p2⟩, ⟨c1, (show c.1 ≤ 200 by omega)⟩, fun h => ?_, fun _ w _ => ⟨0, by omega, fun n => ?_⟩⟩
          · have h : -1000 * 1 - p = 0 := h
            omega
          · show yp_S T len (n + 1) true w o p c = some (.inl (-1000 * 1 - p))
            rw [yp_S_t, if_neg h91, if_neg hd, if_pos hl1]
            rfl
        · have hli : 0 ≤ yp_lt (yp_pk T len p) ∧ yp_lt (yp_pk T len p) < 13 := (yp_lt_in _).resolve_left hl1
          rw [if_neg hl1, ze_addStep c1 (by omega), zl_b, zi_w_id (x := p + 1) (by omega) (by omega)]
          refine zh_ret ⟨⟨?_, ?_⟩, ⟨?_, ?_⟩, fun _ => ⟨?_, ?_, ?_, fun j hj => ⟨zv_up_n (by omega), zv_up_n (by omega)⟩, ⟨_, zd_seg_nd (zg_let (K := zv_up c.2.1 c.1 1) (V := zv_up c.2.2 c.1 (yp_lt (yp_pk T len p))) c1 zv_up_s (by rw [zv_up_s]; omega) (by rw [zv_up_s]; omega)) (by omega)⟩, trivial, fun w _ => ⟨1, ?_, fun n => ?_⟩⟩, fun h => absurd rfl h⟩
          · show 0 ≤ p + 1; omega
          · show p + 1 ≤ len; omega
          · show 0 ≤ c.1 + 1; omega
          · show c.1 + 1 ≤ 200; omega
          · show p < p + 1; omega
          · show c.1 < c.1 + 1; omega
          · show c.1 + 1 - c.1 ≤ p + 1 - p; omega
          · show ((1 : Nat) : Int) ≤ p + 1 - p; omega
          · rw [yp_S_t, if_neg h91, if_neg hd, if_neg hl1]
            rfl
end ZRT
/-- the whole family, by how many are left -/
theorem yr_all {T : Int → Int} {len : Int} (hl : len ≤ 200) (hT : ∀ j, 0 ≤ j → j < 220 → 0 ≤ T j ∧ T j ≤ 255) : ∀ (d : Nat) (o : Int), o + d = 6 → 0 ≤ o → ∀ n, yr_is (fun p c => zg_LawReader_readSum (n + 3 * d + 3) 0 o 0 p len c.1 T c.2.1 c.2.2) T len o (15 - 2 * o) yp_ta yp_nos := by
  intro d
  induction d with
  | zero =>
    intro o ho oo n
    refine yr_sum (rc := zg_LawReader_readSum (n + 2)) hl (by omega) ?_
    refine yr_term (rc := zg_LawReader_readSum (n + 1)) hl (by omega) ?_
    exact yr_fact (rc := zg_LawReader_readSum n) hl (by omega) oo hT fun h => absurd h (by omega)
  | succ d ih =>
    intro o ho oo n
    refine yr_sum (rc := zg_LawReader_readSum (n + 3 * (d + 1) + 2)) hl (by omega) ?_
    refine yr_term (rc := zg_LawReader_readSum (n + 3 * (d + 1) + 1)) hl (by omega) ?_
    refine yr_fact (rc := zg_LawReader_readSum (n + 3 * (d + 1))) hl (by omega) oo hT fun _ => ?_
    exact ih (o + 1) (by omega) (by omega) n
theorem yr_readSum {T : Int → Int} {len o : Int} (hl : len ≤ 200) (hT : ∀ j, 0 ≤ j → j < 220 → 0 ≤ T j ∧ T j ≤ 255) (o1 : 0 ≤ o) (o2 : o ≤ 6) : yr_is (fun p c => zf_LawReader_readSum o 0 p len c.1 T c.2.1 c.2.2) T len o (15 - 2 * o) yp_ta yp_nos := by
  have h := yr_all hl hT (6 - o).toNat o (by omega) o1 (27 - 3 * (6 - o).toNat)
  rw [show 27 - 3 * (6 - o).toNat + 3 * (6 - o).toNat + 3 = 30 by omega] at h
  exact h
end
section
/-! Conditions: the machine, and the class's reader against it. -/
def yp_cs (c : Int) : Int := if c = 60 then 10 else if c = 62 then 11 else if c = 61 then 12 else -1
theorem yp_cs_in (c : Int) : yp_cs c = -1 ∨ (10 ≤ yp_cs c ∧ yp_cs c ≤ 12) := by unfold yp_cs; (repeat' split) <;> simp
abbrev zWT : Type := List (Int × Int)
def yp_hd : zWT → Int
  | [] => 0
  | s :: _ => s.1
def yp_la (all : Bool) : zWT → zCD → zWT × zCD
  | [], c => ([], c)
  | s :: w, c => if s.1 = 11 ∨ (all = true ∧ s.1 = 12) then yp_la all w (yp_ln s.2 c) else (s :: w, c)
/-- true: a piece is due; false: behind one -/
def yp_C (T : Int → Int) (len : Int) : Nat → Bool → zWT → Int → Int → zCD → Option (Int ⊕ (Int × zCD))
  | 0, _, _, _, _, _ => none
  | n + 1, true, w, o, p, c => if yp_pk T len p = 33 then (if o = 6 then some (.inl (-5000 - p)) else yp_C T len n true ((10, 0) :: w) (o + 1) (p + 1) c)
    else if yp_pk T len p = 40 then (if o = 6 then some (.inl (-5000 - p)) else yp_C T len n true ((13, 0) :: w) (o + 1) (p + 1) c)
    else (yp_S T len 1000 true [] o p c).bind fun r => Sum.elim (fun f => some (.inl f)) (fun q => if yp_cs (yp_pk T len q.1) = -1 then some (.inl (-1000 - q.1)) else (yp_S T len 1000 true [] o (q.1 + 1) q.2).bind fun r2 => Sum.elim (fun f => some (.inl f)) (fun q2 => yp_C T len n false w o q2.1 (yp_em (yp_cs (yp_pk T len q.1)) 0 q2.2)) r2) r
  | n + 1, false, w, o, p, c => if yp_hd w = 10 then yp_C T len n false w.tail (o - 1) p (yp_em 2 0 c)
    else if yp_pk T len p = 41 then (if (yp_la true w c).1.tail = [] then some (.inr (p + 1, (yp_la true w c).2)) else yp_C T len n false (yp_la true w c).1.tail (o - 1) (p + 1) (yp_la true w c).2)
    else if yp_pk T len p = 38 then yp_C T len n true ((11, (yp_la false w c).2.1) :: (yp_la false w c).1) o (p + 1) (yp_em 4 0 (yp_la false w c).2)
    else if yp_pk T len p = 124 then yp_C T len n true ((12, (yp_la true w c).2.1) :: (yp_la true w c).1) o (p + 1) (yp_em 3 0 (yp_la true w c).2)
    else some (.inl (-1000 - p))
section ZPC
variable {T : Int → Int} {len o p : Int} {c : zCD} {w : zWT} {n : Nat}
theorem yp_C_t : yp_C T len (n + 1) true w o p c = if yp_pk T len p = 33 then (if o = 6 then some (.inl (-5000 - p)) else yp_C T len n true ((10, 0) :: w) (o + 1) (p + 1) c)
    else if yp_pk T len p = 40 then (if o = 6 then some (.inl (-5000 - p)) else yp_C T len n true ((13, 0) :: w) (o + 1) (p + 1) c)
    else (yp_S T len 1000 true [] o p c).bind fun r => Sum.elim (fun f => some (.inl f)) (fun q => if yp_cs (yp_pk T len q.1) = -1 then some (.inl (-1000 - q.1)) else (yp_S T len 1000 true [] o (q.1 + 1) q.2).bind fun r2 => Sum.elim (fun f => some (.inl f)) (fun q2 => yp_C T len n false w o q2.1 (yp_em (yp_cs (yp_pk T len q.1)) 0 q2.2)) r2) r := rfl
theorem yp_C_f : yp_C T len (n + 1) false w o p c = if yp_hd w = 10 then yp_C T len n false w.tail (o - 1) p (yp_em 2 0 c)
    else if yp_pk T len p = 41 then (if (yp_la true w c).1.tail = [] then some (.inr (p + 1, (yp_la true w c).2)) else yp_C T len n false (yp_la true w c).1.tail (o - 1) (p + 1) (yp_la true w c).2)
    else if yp_pk T len p = 38 then yp_C T len n true ((11, (yp_la false w c).2.1) :: (yp_la false w c).1) o (p + 1) (yp_em 4 0 (yp_la false w c).2)
    else if yp_pk T len p = 124 then yp_C T len n true ((12, (yp_la true w c).2.1) :: (yp_la true w c).1) o (p + 1) (yp_em 3 0 (yp_la true w c).2)
    else some (.inl (-1000 - p)) := rfl
theorem yp_la_c {all : Bool} {s : Int × Int} : yp_la all (s :: w) c = if s.1 = 11 ∨ (all = true ∧ s.1 = 12) then yp_la all w (yp_ln s.2 c) else (s :: w, c) := rfl
theorem yp_la_n {all : Bool} (h : yp_hd w ≠ 11 ∧ (all = true → yp_hd w ≠ 12)) : yp_la all w c = (w, c) := by
  cases w with
  | nil => rfl
  | cons s w =>
    rw [yp_la_c, if_neg]
    intro hh
    have h1 : s.1 ≠ 11 := h.1
    rcases hh with k | ⟨k1, k2⟩
    · exact h1 k
    · exact h.2 k1 k2
theorem yp_C_ifn {j : Int} (hw : yp_hd w ≠ 10) : yp_C T len n false ((11, j) :: w) o p c = yp_C T len n false w o p (yp_ln j c) := by
  cases n with
  | zero => rfl
  | succ n =>
    have q : ∀ all, yp_la all ((11, j) :: w) c = yp_la all w (yp_ln j c) := fun all => by rw [yp_la_c, if_pos (Or.inl rfl)]
    rw [yp_C_f, yp_C_f, q, q, if_neg hw, if_neg (show ¬ yp_hd ((11, j) :: w) = 10 from (by decide : ¬ (11 : Int) = 10))]
theorem yp_C_ifs {j : Int} (hw : yp_hd w ≠ 10) (hp : yp_pk T len p ≠ 38) : yp_C T len n false ((12, j) :: w) o p c = yp_C T len n false w o p (yp_ln j c) := by
  cases n with
  | zero => rfl
  | succ n =>
    have q : yp_la true ((12, j) :: w) c = yp_la true w (yp_ln j c) := by rw [yp_la_c, if_pos (Or.inr ⟨rfl, rfl⟩)]
    rw [yp_C_f, yp_C_f, q, if_neg hw, if_neg (show ¬ yp_hd ((12, j) :: w) = 10 from (by decide : ¬ (12 : Int) = 10)), if_neg hp, if_neg hp]
end ZPC
def yp_okC (T : Int → Int) (len o : Int) (W : zWT → Prop) (N : Int → Prop) (p : Int) (c : zCD) (p' : Int) (c' : zCD) : Prop :=
  p < p' ∧ c.1 < c'.1 ∧ c'.1 - c.1 ≤ p' - p ∧ (∀ j, j < c.1 → c'.2.1 j = c.2.1 j ∧ c'.2.2 j = c.2.2 j) ∧ (∃ ρ, zd_seg true c'.2.1 c'.2.2 c.1 c'.1 16 ρ) ∧ N (yp_pk T len p') ∧
  ∀ w, W w → ∃ k : Nat, (k : Int) ≤ 2 * (p' - p) ∧ ∀ n, yp_C T len (n + k) true w o p c = yp_C T len n false w o p' c'
def yp_noC (T : Int → Int) (len o : Int) (W : zWT → Prop) (p : Int) (c : zCD) (f : Int) : Prop :=
  ∀ w, W w → ∃ k : Nat, (k : Int) ≤ 2 * (len - p) ∧ ∀ n, yp_C T len (n + k + 1) true w o p c = some (.inl f)
def yp_CC (T : Int → Int) (len o : Int) (W : zWT → Prop) (N : Int → Prop) (p : Int) (c : zCD) (r : Int × Int × zCD) : Prop :=
  (0 ≤ r.2.1 ∧ r.2.1 ≤ len) ∧ (0 ≤ r.2.2.1 ∧ r.2.2.1 ≤ 200) ∧ (r.1 = 0 → yp_okC T len o W N p c r.2.1 r.2.2) ∧ (r.1 ≠ 0 → yp_noC T len o W p c r.1)
def yp_wp (w : zWT) : Prop := w ≠ []
def yp_wq (w : zWT) : Prop := yp_hd w = 12 ∨ yp_hd w = 13
def yp_wc (w : zWT) : Prop := yp_hd w = 13
def yp_noa (x : Int) : Prop := x ≠ 38
def yp_noo (x : Int) : Prop := x ≠ 38 ∧ x ≠ 124
section ZCC
variable {T : Int → Int} {len o : Int} {W W2 : zWT → Prop} {N N2 : Int → Prop} {p0 p s kk x : Int} {c0 c : zCD} {r : Int × Int × zCD} {all : Bool}
theorem yp_CC_N (h : yp_CC T len o W N2 p0 c0 r) (k : r.1 = 0 → N (yp_pk T len r.2.1)) : yp_CC T len o W N p0 c0 r :=
  ⟨h.1, h.2.1, fun e => (by
    obtain ⟨q1, q2, q3, q4, q5, q6, q7⟩ := h.2.2.1 e
    exact ⟨q1, q2, q3, q4, q5, k e, q7⟩), h.2.2.2⟩
theorem yp_CC_W (h : yp_CC T len o W N p0 c0 r) (k : ∀ w, W2 w → W w) : yp_CC T len o W2 N p0 c0 r :=
  ⟨h.1, h.2.1, fun e => (by
    obtain ⟨q1, q2, q3, q4, q5, q6, q7⟩ := h.2.2.1 e
    exact ⟨q1, q2, q3, q4, q5, q6, fun w hw => q7 w (k w hw)⟩), fun e w hw => h.2.2.2 e w (k w hw)⟩
theorem yp_CC_step (hl : len ≤ 200) (h0 : c0.1 ≤ p0) (hs : yp_CC T len o W N p0 c0 (0, p, c)) (hp : p < len) (hr : yp_CC T len o W2 N2 (p + 1) (yp_em kk 0 c) r) (hk : kk = 3 ∨ kk = 4)
    (h1 : ∀ w, W w → W2 ((s, c.1) :: w) ∧ ∀ n, yp_C T len (n + 1) false w o p c = yp_C T len n true ((s, c.1) :: w) o (p + 1) (yp_em kk 0 c))
    (hM : ∀ w c' p', W w → N2 (yp_pk T len p') → ∀ n, yp_C T len n false ((s, c.1) :: w) o p' c' = yp_C T len n false w o p' (yp_ln c.1 c')) :
    (r.1 = 0 → p + 1 < r.2.1 ∧ yp_CC T len o W yp_any p0 c0 (0, r.2.1, yp_ln c.1 r.2.2)) ∧ (r.1 ≠ 0 → ∀ c'' : zCD, 0 ≤ c''.1 → c''.1 ≤ 200 → yp_CC T len o W N p0 c0 (r.1, r.2.1, c'')) := by
  obtain ⟨⟨p1, p2⟩, ⟨c1, c2⟩, hs, -⟩ := hs
  obtain ⟨a1, a2, a3, a4, ⟨ρ1, a5⟩, -, a7⟩ := hs rfl
  obtain ⟨⟨r1, r2⟩, ⟨r3, r4⟩, ro, rb⟩ := hr
  have a3 : c.1 - c0.1 ≤ p - p0 := a3
  have a2 : c0.1 < c.1 := a2
  have a1 : p0 < p := a1
  have p2 : p ≤ len := p2
  refine ⟨fun e => ?_, fun e c'' d1 d2 => ?_⟩
  · obtain ⟨b1, b2, b3, b4, ⟨ρ2, b5⟩, b6, b7⟩ := ro e
    have b2 : c.1 + 1 < r.2.2.1 := b2
    have b3 : r.2.2.1 - (c.1 + 1) ≤ r.2.1 - (p + 1) := b3
    have b4 : ∀ j, j < c.1 + 1 → r.2.2.2.1 j = zv_up c.2.1 c.1 kk j ∧ r.2.2.2.2 j = zv_up c.2.2 c.1 0 j := b4
    have kc : r.2.2.2.1 c.1 = kk := (b4 c.1 (by omega)).1.trans zv_up_s
    refine ⟨b1, ⟨r1, r2⟩, ⟨r3, r4⟩, fun _ => ⟨?_, ?_, ?_, fun j hj => ?_, ⟨_, zg_jmp (b := c.1) (ρ1 := ρ1) (ρ2 := ρ2) ?_ ?_ ?_ ?_ (by decide)⟩, trivial, fun w hw => ?_⟩, fun h => absurd rfl h⟩
    · show p0 < r.2.1; omega
    · show c0.1 < r.2.2.1; omega
    · show r.2.2.1 - c0.1 ≤ r.2.1 - p0; omega
    · have q1 := b4 j (by omega)
      have q2 := a4 j hj
      exact ⟨q1.1.trans ((zv_up_n (show j ≠ c.1 by omega)).trans q2.1), (zv_up_n (show j ≠ c.1 by omega)).trans (q1.2.trans ((zv_up_n (show j ≠ c.1 by omega)).trans q2.2))⟩
    · exact zd_seg_fr a5 fun j j1 j2 => ⟨(b4 j (by have j2 : j < c.1 := j2; omega)).1.trans (zv_up_n (show j ≠ c.1 by have j2 : j < c.1 := j2; omega)), (zv_up_n (show j ≠ c.1 by have j2 : j < c.1 := j2; omega)).trans ((b4 j (by have j2 : j < c.1 := j2; omega)).2.trans (zv_up_n (show j ≠ c.1 by have j2 : j < c.1 := j2; omega)))⟩
    · exact zd_seg_fr b5 fun j j1 j2 => ⟨rfl, zv_up_n (show j ≠ c.1 by have j1 : c.1 + 1 ≤ j := j1; omega)⟩
    · show r.2.2.2.1 c.1 = 3 ∨ r.2.2.2.1 c.1 = 4
      rw [kc]; exact hk
    · exact zv_up_s
    · obtain ⟨k1, l1, u1⟩ := a7 w hw
      obtain ⟨k2, l2, u2⟩ := b7 ((s, c.1) :: w) (h1 w hw).1
      have l1 : (k1 : Int) ≤ 2 * (p - p0) := l1
      refine ⟨k1 + 1 + k2, by show ((k1 + 1 + k2 : Nat) : Int) ≤ 2 * (r.2.1 - p0); omega, fun n => ?_⟩
      rw [show n + (k1 + 1 + k2) = (n + k2 + 1) + k1 by omega, u1]
      show yp_C T len (n + k2 + 1) false w o p c = _
      rw [(h1 w hw).2, u2, hM w _ _ hw b6]
  · refine ⟨⟨r1, r2⟩, ⟨d1, d2⟩, fun h => absurd h e, fun _ w hw => ?_⟩
    obtain ⟨k1, l1, u1⟩ := a7 w hw
    obtain ⟨k2, l2, u2⟩ := rb e ((s, c.1) :: w) (h1 w hw).1
    have l1 : (k1 : Int) ≤ 2 * (p - p0) := l1
    refine ⟨k1 + 1 + k2, by omega, fun n => ?_⟩
    rw [show n + (k1 + 1 + k2) + 1 = ((n + k2 + 1) + 1) + k1 by omega, u1]
    show yp_C T len (n + k2 + 1 + 1) false w o p c = _
    rw [(h1 w hw).2, u2]
end ZCC
def yr_ic (R : Int → zCD → Option (Int × Int × zCD)) (T : Int → Int) (len o : Int) (W : zWT → Prop) (N : Int → Prop) : Prop := ∀ (p : Int) (c : zCD), 0 ≤ p → p ≤ len → 0 ≤ c.1 → c.1 ≤ p → zh_ok (R p c) (yp_CC T len o W N p c)
section ZRC
variable {rc : zRC} {T : Int → Int} {len o : Int}
theorem ze_landJump {j f : Int} {V : Int → Int} (h1 : 0 ≤ j) (h2 : j < 200) : zf_Law_landJump j f V = some (zv_up V j f) := by
  unfold zf_Law_landJump
  rw [if_neg (by omega), if_pos h2, zl_ci h1 (by omega)]
theorem yr_part_f {n : Nat} {f p c : Int} {K V : Int → Int} (hf : f ≠ 0) : zm_LawReader_readPart_l0 rc o len T (n + 1) f p c K V = some (f, p, c, K, V) := by
  show zm_LawReader_readPart_l0_b rc o len T (zm_LawReader_readPart_l0 rc o len T n) f p c K V = _
  unfold zm_LawReader_readPart_l0_b
  rw [if_neg hf]
theorem yr_part_l (hl : len ≤ 200) (ho : o ≤ 6) (hF : yr_ic (fun p c => rc 2 o 0 p len c.1 T c.2.1 c.2.2) T len o yp_wp yp_any) {p0 : Int} {c0 : zCD} (h0 : c0.1 ≤ p0) (h00 : 0 ≤ c0.1) : ∀ (m : Nat) (f p : Int) (c : zCD) (n : Nat), len - p ≤ m → m < n → yp_CC T len o yp_wq yp_any p0 c0 (f, p, c) →
    zh_ok (zm_LawReader_readPart_l0 rc o len T n f p c.1 c.2.1 c.2.2) (yp_CC T len o yp_wq yp_noa p0 c0) := by
  intro m
  induction m with
  | zero =>
    intro f p c n hm hn hs
    obtain ⟨n, rfl⟩ : ∃ q, n = q + 1 := ⟨n - 1, by omega⟩
    by_cases hf : f = 0
    · show zh_ok (zm_LawReader_readPart_l0_b rc o len T (zm_LawReader_readPart_l0 rc o len T n) f p c.1 c.2.1 c.2.2) _
      unfold zm_LawReader_readPart_l0_b
      rw [if_pos hf, if_neg (by omega)]
      exact zh_ret (yp_CC_N hs fun _ => by
        show yp_pk T len p ≠ 38
        unfold yp_pk
        rw [if_neg (by omega)]; decide)
    · rw [yr_part_f hf]
      exact zh_ret (yp_CC_N hs fun h => absurd h hf)
  | succ m ih =>
    intro f p c n hm hn hs
    obtain ⟨n, rfl⟩ : ∃ q, n = q + 1 := ⟨n - 1, by omega⟩
    by_cases hf : f = 0
    · subst hf
      by_cases hp : p < len
      · have p1 : 0 ≤ p := hs.1.1
        have c1 : 0 ≤ c.1 := hs.2.1.1
        have cp : c.1 ≤ p := by
          obtain ⟨a1, a2, a3, -⟩ := hs.2.2.1 rfl
          have a1 : p0 < p := a1
          have a3 : c.1 - c0.1 ≤ p - p0 := a3
          omega
        have pk : yp_pk T len p = T p := if_pos hp
        show zh_ok (zm_LawReader_readPart_l0_b rc o len T (zm_LawReader_readPart_l0 rc o len T n) 0 p c.1 c.2.1 c.2.2) _
        unfold zm_LawReader_readPart_l0_b
        rw [if_pos rfl, if_pos hp, zl_ci p1 (by omega), zi_w_id (x := p + 1) (by omega) (by omega)]
        by_cases h38 : T p = 38
        · rw [if_pos h38, ze_addStep c1 (by omega), zl_b]
          refine zh_bind (hF (p + 1) (yp_em 4 0 c) (by omega) (by omega) (by show 0 ≤ c.1 + 1; omega) (by show c.1 + 1 ≤ p + 1; omega)) fun r hr => ?_
          obtain ⟨q1, q2⟩ := yp_CC_step (s := 11) hl h0 hs hp hr (Or.inr rfl) (fun w hw => ⟨fun h => (by cases h), fun n => by
            have hd : yp_hd w ≠ 10 ∧ yp_hd w ≠ 11 := by
              rcases hw with h | h <;> rw [h] <;> decide
            rw [yp_C_f, if_neg hd.1, pk, h38, if_neg (by decide), if_pos rfl, yp_la_n ⟨hd.2, fun h => (by cases h)⟩]⟩) (fun w c' p' hw _ n => yp_C_ifn (by rcases hw with h | h <;> rw [h] <;> decide))
          rw [ze_landJump c1 (by omega), zl_b]
          by_cases he : r.1 = 0
          · obtain ⟨b3, q1⟩ := q1 he
            rw [he]
            exact ih 0 r.2.1 (yp_ln c.1 r.2.2) n (by omega) (by omega) q1
          · obtain ⟨n, rfl⟩ : ∃ q, n = q + 1 := ⟨n - 1, by omega⟩
            rw [yr_part_f he]
            exact zh_ret (yp_CC_N (q2 he (yp_ln c.1 r.2.2) hr.2.1.1 hr.2.1.2) fun h => absurd h he)
        rw [if_neg h38]
        exact zh_ret (yp_CC_N hs fun _ => by
          show yp_pk T len p ≠ 38
          rw [pk]; exact h38)
      · show zh_ok (zm_LawReader_readPart_l0_b rc o len T (zm_LawReader_readPart_l0 rc o len T n) 0 p c.1 c.2.1 c.2.2) _
        unfold zm_LawReader_readPart_l0_b
        rw [if_pos rfl, if_neg hp]
        exact zh_ret (yp_CC_N hs fun _ => by
          show yp_pk T len p ≠ 38
          unfold yp_pk
          rw [if_neg hp]; decide)
    · rw [yr_part_f hf]
      exact zh_ret (yp_CC_N hs fun h => absurd h hf)
theorem yr_part (hl : len ≤ 200) (ho : o ≤ 6) (hF : yr_ic (fun p c => rc 2 o 0 p len c.1 T c.2.1 c.2.2) T len o yp_wp yp_any) : yr_ic (fun p c => zm_LawReader_readPart rc o 0 p len c.1 T c.2.1 c.2.2) T len o yp_wq yp_noa := by
  intro p c p1 p2 c1 c2
  show zh_ok (zm_LawReader_readPart rc o 0 p len c.1 T c.2.1 c.2.2) _
  unfold zm_LawReader_readPart
  refine zh_bind (hF p c p1 p2 c1 c2) fun r hr => ?_
  refine zh_bind (yr_part_l hl ho hF c2 c1 (len - r.2.1).toNat r.1 r.2.1 r.2.2 zi_fu (by omega) (by have := hr.1.1; have : 1000 < zi_fu := (by decide); omega) (yp_CC_W hr fun w hw e => by subst e; rcases hw with h | h <;> cases h)) fun q hq => zh_ret hq
theorem yr_cond_f {n : Nat} {f p c : Int} {K V : Int → Int} (hf : f ≠ 0) : zm_LawReader_readCondition_l0 rc o len T (n + 1) f p c K V = some (f, p, c, K, V) := by
  show zm_LawReader_readCondition_l0_b rc o len T (zm_LawReader_readCondition_l0 rc o len T n) f p c K V = _
  unfold zm_LawReader_readCondition_l0_b
  rw [if_neg hf]
theorem yr_cond_l (hl : len ≤ 200) (ho : o ≤ 6) (hF : yr_ic (fun p c => rc 1 o 0 p len c.1 T c.2.1 c.2.2) T len o yp_wq yp_noa) {p0 : Int} {c0 : zCD} (h0 : c0.1 ≤ p0) (h00 : 0 ≤ c0.1) : ∀ (m : Nat) (f p : Int) (c : zCD) (n : Nat), len - p ≤ m → m < n → yp_CC T len o yp_wc yp_noa p0 c0 (f, p, c) →
    zh_ok (zm_LawReader_readCondition_l0 rc o len T n f p c.1 c.2.1 c.2.2) (yp_CC T len o yp_wc yp_noo p0 c0) := by
  intro m
  induction m with
  | zero =>
    intro f p c n hm hn hs
    obtain ⟨n, rfl⟩ : ∃ q, n = q + 1 := ⟨n - 1, by omega⟩
    by_cases hf : f = 0
    · show zh_ok (zm_LawReader_readCondition_l0_b rc o len T (zm_LawReader_readCondition_l0 rc o len T n) f p c.1 c.2.1 c.2.2) _
      unfold zm_LawReader_readCondition_l0_b
      rw [if_pos hf, if_neg (by omega)]
      exact zh_ret (yp_CC_N hs fun _ => by
        show yp_pk T len p ≠ 38 ∧ yp_pk T len p ≠ 124
        unfold yp_pk
        rw [if_neg (by omega)]; decide)
    · rw [yr_cond_f hf]
      exact zh_ret (yp_CC_N hs fun h => absurd h hf)
  | succ m ih =>
    intro f p c n hm hn hs
    obtain ⟨n, rfl⟩ : ∃ q, n = q + 1 := ⟨n - 1, by omega⟩
    by_cases hf : f = 0
    · subst hf
      have hN : yp_pk T len p ≠ 38 := (hs.2.2.1 rfl).2.2.2.2.2.1
      by_cases hp : p < len
      · have p1 : 0 ≤ p := hs.1.1
        have c1 : 0 ≤ c.1 := hs.2.1.1
        have cp : c.1 ≤ p := by
          obtain ⟨a1, a2, a3, -⟩ := hs.2.2.1 rfl
          have a1 : p0 < p := a1
          have a3 : c.1 - c0.1 ≤ p - p0 := a3
          omega
        have pk : yp_pk T len p = T p := if_pos hp
        show zh_ok (zm_LawReader_readCondition_l0_b rc o len T (zm_LawReader_readCondition_l0 rc o len T n) 0 p c.1 c.2.1 c.2.2) _
        unfold zm_LawReader_readCondition_l0_b
        rw [if_pos rfl, if_pos hp, zl_ci p1 (by omega), zi_w_id (x := p + 1) (by omega) (by omega)]
        by_cases h124 : T p = 124
        · rw [if_pos h124, ze_addStep c1 (by omega), zl_b]
          refine zh_bind (hF (p + 1) (yp_em 3 0 c) (by omega) (by omega) (by show 0 ≤ c.1 + 1; omega) (by show c.1 + 1 ≤ p + 1; omega)) fun r hr => ?_
          obtain ⟨q1, q2⟩ := yp_CC_step (s := 12) hl h0 hs hp hr (Or.inl rfl) (fun w hw => ⟨Or.inl rfl, fun n => by
            have hw : yp_hd w = 13 := hw
            rw [yp_C_f, if_neg (by rw [hw]; decide), pk, h124, if_neg (by decide), if_neg (by decide), if_pos rfl, yp_la_n ⟨by rw [hw]; decide, fun _ => by rw [hw]; decide⟩]⟩) (fun w c' p' hw hN n => yp_C_ifs (by have hw : yp_hd w = 13 := hw; rw [hw]; decide) hN)
          rw [ze_landJump c1 (by omega), zl_b]
          by_cases he : r.1 = 0
          · have hN2 := (hr.2.2.1 he).2.2.2.2.2.1
            obtain ⟨b3, q1⟩ := q1 he
            rw [he]
            exact ih 0 r.2.1 (yp_ln c.1 r.2.2) n (by omega) (by omega) (yp_CC_N q1 fun _ => hN2)
          · obtain ⟨n, rfl⟩ : ∃ q, n = q + 1 := ⟨n - 1, by omega⟩
            rw [yr_cond_f he]
            exact zh_ret (yp_CC_N (q2 he (yp_ln c.1 r.2.2) hr.2.1.1 hr.2.1.2) fun h => absurd h he)
        rw [if_neg h124]
        exact zh_ret (yp_CC_N hs fun _ => by
          show yp_pk T len p ≠ 38 ∧ yp_pk T len p ≠ 124
          exact ⟨hN, by rw [pk]; exact h124⟩)
      · show zh_ok (zm_LawReader_readCondition_l0_b rc o len T (zm_LawReader_readCondition_l0 rc o len T n) 0 p c.1 c.2.1 c.2.2) _
        unfold zm_LawReader_readCondition_l0_b
        rw [if_pos rfl, if_neg hp]
        exact zh_ret (yp_CC_N hs fun _ => by
          show yp_pk T len p ≠ 38 ∧ yp_pk T len p ≠ 124
          unfold yp_pk
          rw [if_neg hp]; decide)
    · rw [yr_cond_f hf]
      exact zh_ret (yp_CC_N hs fun h => absurd h hf)
theorem yr_cond (hl : len ≤ 200) (ho : o ≤ 6) (hF : yr_ic (fun p c => rc 1 o 0 p len c.1 T c.2.1 c.2.2) T len o yp_wq yp_noa) : yr_ic (fun p c => zm_LawReader_readCondition rc o 0 p len c.1 T c.2.1 c.2.2) T len o yp_wc yp_noo := by
  intro p c p1 p2 c1 c2
  show zh_ok (zm_LawReader_readCondition rc o 0 p len c.1 T c.2.1 c.2.2) _
  unfold zm_LawReader_readCondition
  refine zh_bind (hF p c p1 p2 c1 c2) fun r hr => ?_
  refine zh_bind (yr_cond_l hl ho hF c2 c1 (len - r.2.1).toNat r.1 r.2.1 r.2.2 zi_fu (by omega) (by have := hr.1.1; have : 1000 < zi_fu := (by decide); omega) (yp_CC_W hr fun w hw => Or.inr hw)) fun q hq => zh_ret hq
/-- two sums compared -/
theorem yr_sumS {p p' : Int} {c c' : zCD} (hl : len ≤ 200) (p1 : 0 ≤ p) (p2 : p' ≤ len) (h : yp_okE T len o (15 - 2 * o) yp_ta yp_nos p c p' c') : yp_S T len 1000 true [] o p c = some (.inr (p', c')) := by
  obtain ⟨a1, a2, a3, a4, a5, a6, a7⟩ := h
  obtain ⟨k, l, u⟩ := a7 [] (fun s w e => by cases e)
  have a6 : yp_ss (yp_pk T len p') = -1 := a6
  have := u (1000 - k)
  rw [show 1000 - k + k = 1000 by omega] at this
  rw [this, show 1000 - k = (999 - k) + 1 by omega, yp_S_f, a6, if_neg (fun h => h rfl), if_neg (by simp)]
  rfl
theorem yr_sumN {p f : Int} {c : zCD} (hl : len ≤ 200) (p1 : 0 ≤ p) (h : yp_noE T len o yp_ta p c f) : yp_S T len 1000 true [] o p c = some (.inl f) := by
  obtain ⟨k, l, u⟩ := h [] (fun s w e => by cases e)
  have := u (1000 - k - 1)
  rw [show 1000 - k - 1 + k + 1 = 1000 by omega] at this
  exact this
theorem yr_comp (hl : len ≤ 200) (hT : ∀ j, 0 ≤ j → j < 220 → 0 ≤ T j ∧ T j ≤ 255) (o1 : 1 ≤ o) (o2 : o ≤ 6) {p : Int} {c : zCD} (p1 : 0 ≤ p) (p2 : p ≤ len) (c1 : 0 ≤ c.1) (c2 : c.1 ≤ p) (h33 : yp_pk T len p ≠ 33) (h40 : yp_pk T len p ≠ 40) : zh_ok (zf_LawReader_readComparison o 0 p len c.1 T c.2.1 c.2.2) (yp_CC T len o yp_wp yp_any p c) := by
  unfold zf_LawReader_readComparison
  have hS := yr_readSum (T := T) (len := len) (o := o) hl hT (by omega) o2
  refine zh_bind (hS p c p1 p2 c1 c2) fun r hr => ?_
  obtain ⟨⟨r1, r2⟩, ⟨r3, r4⟩, ro, rb⟩ := hr
  by_cases he : r.1 = 0
  · have ro := ro he
    have hS1 := yr_sumS hl p1 r2 ro
    obtain ⟨a1, a2, a3, a4, ⟨ρ1, a5⟩, a6, -⟩ := ro
    rw [if_pos he, ze_peek r1 (by omega), zl_b, he]
    have step : ∀ kk, yp_cs (yp_pk T len r.2.1) = kk → 10 ≤ kk → kk ≤ 12 → zh_ok ((zf_LawReader_readSum o 0 (zi_w (r.2.1 + 1)) len r.2.2.1 T r.2.2.2.1 r.2.2.2.2).bind fun r5 => ((zf_Law_addStep kk 0 r5.2.2.1 r5.2.2.2.1 r5.2.2.2.2).bind fun r7 => (some (r5.1, r5.2.1, r7.2.1, r7.2.2.1, r7.2.2.2)))) (yp_CC T len o yp_wp yp_any p c) := by
      intro kk hk k1 k2
      have hp : r.2.1 < len := yp_pk_lt (T := T) (fun h => by rw [h] at hk; have : yp_cs (-1) = -1 := (by decide); omega)
      rw [zi_w_id (x := r.2.1 + 1) (by omega) (by omega)]
      refine zh_bind (hS (r.2.1 + 1) r.2.2 (by omega) (by omega) r3 (by omega)) fun q hq => ?_
      obtain ⟨⟨q1, q2⟩, ⟨q3, q4⟩, qo, qb⟩ := hq
      by_cases hq0 : q.1 = 0
      · have qo := qo hq0
        have hS2 := yr_sumS hl (by omega) q2 qo
        obtain ⟨b1, b2, b3, b4, ⟨ρ2, b5⟩, b6, -⟩ := qo
        rw [ze_addStep q3 (by omega), zl_b, hq0]
        refine zh_ret ⟨⟨q1, q2⟩, ⟨?_, ?_⟩, fun _ => ⟨?_, ?_, ?_, fun j hj => ?_, ⟨_, zd_seg_nd (zg_bin (nd := 15 - 2 * o + 1) (nd2 := 15 - 2 * o) (b := r.2.2.1) (c := q.2.2.1) (ρ1 := ρ1) (ρ2 := ρ2) ?_ ?_ ?_ ?_ ?_ (by omega) (by omega) (fun _ => ?_)) (by omega)⟩, trivial, fun w _ => ⟨1, ?_, fun n => ?_⟩⟩, fun h => absurd rfl h⟩
        · show 0 ≤ q.2.2.1 + 1; omega
        · show q.2.2.1 + 1 ≤ 200; omega
        · show p < q.2.1; omega
        · show c.1 < q.2.2.1 + 1; omega
        · show q.2.2.1 + 1 - c.1 ≤ q.2.1 - p; omega
        · have u1 := b4 j (by omega)
          have u2 := a4 j hj
          exact ⟨(zv_up_n (show j ≠ q.2.2.1 by omega)).trans (u1.1.trans u2.1), (zv_up_n (show j ≠ q.2.2.1 by omega)).trans (u1.2.trans u2.2)⟩
        · exact zd_seg_nd (zd_seg_fr a5 fun j j1 j2 => ⟨(zv_up_n (show j ≠ q.2.2.1 by omega)).trans (b4 j j2).1, (zv_up_n (show j ≠ q.2.2.1 by omega)).trans (b4 j j2).2⟩) (by omega)
        · exact zd_seg_fr b5 fun j j1 j2 => ⟨zv_up_n (show j ≠ q.2.2.1 by omega), zv_up_n (show j ≠ q.2.2.1 by omega)⟩
        · show 5 ≤ zv_up q.2.2.2.1 q.2.2.1 kk q.2.2.1
          rw [zv_up_s]; omega
        · show zv_up q.2.2.2.1 q.2.2.1 kk q.2.2.1 ≤ 12
          rw [zv_up_s]; omega
        · exact zv_up_s
        · show 10 ≤ zv_up q.2.2.2.1 q.2.2.1 kk q.2.2.1
          rw [zv_up_s]; omega
        · show ((1 : Nat) : Int) ≤ 2 * (q.2.1 - p); omega
        · rw [yp_C_t, if_neg h33, if_neg h40, hS1, zl_b]
          show (if yp_cs (yp_pk T len r.2.1) = -1 then _ else _) = _
          rw [if_neg (by omega), hS2, zl_b]
          show yp_C T len n false w o q.2.1 (yp_em (yp_cs (yp_pk T len r.2.1)) 0 q.2.2) = _
          rw [hk]
          rfl
      · have qb := yr_sumN hl (by omega) (qb hq0)
        obtain ⟨a, c', K', V', e1, e2, e3, -⟩ := ze_addStep_a (k := kk) (v := 0) (K := q.2.2.2.1) (V := q.2.2.2.2) q3 q4
        rw [e1, zl_b]
        refine zh_ret ⟨⟨q1, q2⟩, ⟨e2, e3⟩, fun h => absurd h hq0, fun _ w _ => ⟨0, by omega, fun n => ?_⟩⟩
        show yp_C T len (n + 1) true w o p c = some (.inl q.1)
        rw [yp_C_t, if_neg h33, if_neg h40, hS1, zl_b]
        show (if yp_cs (yp_pk T len r.2.1) = -1 then _ else _) = _
        rw [if_neg (by omega), qb, zl_b]
        rfl
    by_cases h60 : yp_pk T len r.2.1 = 60
    · rw [if_pos h60]
      exact step 10 (by rw [h60]; rfl) (by decide) (by decide)
    rw [if_neg h60]
    by_cases h62 : yp_pk T len r.2.1 = 62
    · rw [if_pos h62]
      exact step 11 (by rw [h62]; rfl) (by decide) (by decide)
    rw [if_neg h62]
    by_cases h61 : yp_pk T len r.2.1 = 61
    · rw [if_pos h61]
      exact step 12 (by rw [h61]; rfl) (by decide) (by decide)
    rw [if_neg h61, ze_fail r1 (by omega) (by decide) (by decide), zl_b]
    refine zh_ret ⟨⟨r1, r2⟩, ⟨r3, r4⟩, fun h => ?_, fun _ w _ => ⟨0, by omega, fun n => ?_⟩⟩
    · have h : -1000 * 1 - r.2.1 = 0 := h
      omega
    · show yp_C T len (n + 1) true w o p c = some (.inl (-1000 * 1 - r.2.1))
      rw [yp_C_t, if_neg h33, if_neg h40, hS1, zl_b]
      show (if yp_cs (yp_pk T len r.2.1) = -1 then _ else _) = _
      rw [if_pos (by unfold yp_cs; rw [if_neg h60, if_neg h62, if_neg h61])]
      rfl
  · rw [if_neg he]
    have rb := yr_sumN hl p1 (rb he)
    refine zh_ret ⟨⟨r1, r2⟩, ⟨r3, r4⟩, fun h => absurd h he, fun _ w _ => ⟨0, by omega, fun n => ?_⟩⟩
    show yp_C T len (n + 1) true w o p c = some (.inl r.1)
    rw [yp_C_t, if_neg h33, if_neg h40, rb, zl_b]
    rfl
theorem yr_piece (hl : len ≤ 200) (o1 : 1 ≤ o) (o2 : o ≤ 6) (hT : ∀ j, 0 ≤ j → j < 220 → 0 ≤ T j ∧ T j ≤ 255) (hP : o < 6 → yr_ic (fun p c => rc 2 (o + 1) 0 p len c.1 T c.2.1 c.2.2) T len (o + 1) yp_wp yp_any) (hC : o < 6 → yr_ic (fun p c => rc 0 (o + 1) 0 p len c.1 T c.2.1 c.2.2) T len (o + 1) yp_wc yp_noo) : yr_ic (fun p c => zm_LawReader_readPiece rc o 0 p len c.1 T c.2.1 c.2.2) T len o yp_wp yp_any := by
  intro p c p1 p2 c1 c2
  show zh_ok (zm_LawReader_readPiece rc o 0 p len c.1 T c.2.1 c.2.2) _
  unfold zm_LawReader_readPiece
  rw [ze_peek p1 (by omega), zl_b, if_pos rfl]
  by_cases h33 : yp_pk T len p = 33
  · have hp : p < len := yp_pk_lt (T := T) (by omega)
    rw [if_pos h33]
    by_cases ho6 : o < 6
    · rw [if_pos ho6, zi_w_id (x := o + 1) (by omega) (by omega), zi_w_id (x := p + 1) (by omega) (by omega)]
      refine zh_bind (hP ho6 (p + 1) c (by omega) (by omega) c1 (by omega)) fun r hr => ?_
      obtain ⟨⟨r1, r2⟩, ⟨r3, r4⟩, ro, rb⟩ := hr
      have one : ∀ w n, yp_C T len (n + 1) true w o p c = yp_C T len n true ((10, 0) :: w) (o + 1) (p + 1) c := fun w n => by
        rw [yp_C_t, if_pos h33, if_neg (by omega)]
      by_cases he : r.1 = 0
      · obtain ⟨b1, b2, b3, b4, ⟨ρ, b5⟩, b6, b7⟩ := ro he
        rw [ze_addStep r3 (by omega), zl_b, he]
        refine zh_ret ⟨⟨r1, r2⟩, ⟨?_, ?_⟩, fun _ => ⟨?_, ?_, ?_, fun j hj => ?_, ⟨_, zg_not (b := r.2.2.1) (ρ1 := ρ) ?_ ?_ ?_ (by decide)⟩, trivial, fun w _ => ?_⟩, fun h => absurd rfl h⟩
        · show 0 ≤ r.2.2.1 + 1; omega
        · show r.2.2.1 + 1 ≤ 200; omega
        · show p < r.2.1; omega
        · show c.1 < r.2.2.1 + 1; omega
        · show r.2.2.1 + 1 - c.1 ≤ r.2.1 - p; omega
        · exact ⟨(zv_up_n (show j ≠ r.2.2.1 by omega)).trans (b4 j hj).1, (zv_up_n (show j ≠ r.2.2.1 by omega)).trans (b4 j hj).2⟩
        · exact zd_seg_fr b5 fun j j1 j2 => ⟨zv_up_n (show j ≠ r.2.2.1 by omega), zv_up_n (show j ≠ r.2.2.1 by omega)⟩
        · exact zv_up_s
        · exact zv_up_s
        · obtain ⟨k, l, u⟩ := b7 ((10, 0) :: w) (fun h => (by cases h))
          refine ⟨1 + k + 1, by show ((1 + k + 1 : Nat) : Int) ≤ 2 * (r.2.1 - p); omega, fun n => ?_⟩
          rw [show n + (1 + k + 1) = (n + 1 + k) + 1 by omega, one, u, yp_C_f, if_pos (show yp_hd ((10, 0) :: w) = 10 from rfl), show o + 1 - 1 = o by omega]
          rfl
      · obtain ⟨a, c', K', V', e1, e2, e3, -⟩ := ze_addStep_a (k := 2) (v := 0) (K := r.2.2.2.1) (V := r.2.2.2.2) r3 r4
        rw [e1, zl_b]
        refine zh_ret ⟨⟨r1, r2⟩, ⟨e2, e3⟩, fun h => absurd h he, fun _ w _ => ?_⟩
        obtain ⟨k, l, u⟩ := rb he ((10, 0) :: w) (fun h => (by cases h))
        refine ⟨1 + k, by omega, fun n => ?_⟩
        rw [show n + (1 + k) + 1 = (n + k + 1) + 1 by omega, one, u]
    · rw [if_neg ho6, ze_fail p1 (by omega) (by decide) (by decide), zl_b]
      refine zh_ret ⟨⟨p1, p2⟩, ⟨c1, (show c.1 ≤ 200 by omega)⟩, fun h => ?_, fun _ w _ => ⟨0, by omega, fun n => ?_⟩⟩
      · have h : -1000 * 5 - p = 0 := h
        omega
      · show yp_C T len (n + 1) true w o p c = some (.inl (-1000 * 5 - p))
        rw [yp_C_t, if_pos h33, if_pos (by omega)]
        rfl
  · rw [if_neg h33]
    by_cases h40 : yp_pk T len p = 40
    · have hp : p < len := yp_pk_lt (T := T) (by omega)
      rw [if_pos h40]
      by_cases ho6 : o < 6
      · rw [if_pos ho6, zi_w_id (x := o + 1) (by omega) (by omega), zi_w_id (x := p + 1) (by omega) (by omega)]
        refine zh_bind (hC ho6 (p + 1) c (by omega) (by omega) c1 (by omega)) fun r hr => ?_
        obtain ⟨⟨r1, r2⟩, ⟨r3, r4⟩, ro, rb⟩ := hr
        have one : ∀ w n, yp_C T len (n + 1) true w o p c = yp_C T len n true ((13, 0) :: w) (o + 1) (p + 1) c := fun w n => by
          rw [yp_C_t, if_neg h33, if_pos h40, if_neg (by omega)]
        by_cases he : r.1 = 0
        · obtain ⟨b1, b2, b3, b4, ⟨ρ, b5⟩, b6, b7⟩ := ro he
          have b6 : yp_pk T len r.2.1 ≠ 38 ∧ yp_pk T len r.2.1 ≠ 124 := b6
          rw [he, ze_skip r1 (by omega) (by omega), zl_b]
          by_cases h41 : yp_pk T len r.2.1 = 41
          · have hp3 : r.2.1 < len := yp_pk_lt (T := T) (by omega)
            rw [if_pos h41]
            refine zh_ret ⟨⟨?_, ?_⟩, ⟨r3, r4⟩, fun _ => ⟨?_, b2, ?_, b4, ⟨ρ, b5⟩, trivial, fun w hw => ?_⟩, fun h => absurd rfl h⟩
            · show 0 ≤ r.2.1 + 1; omega
            · show r.2.1 + 1 ≤ len; omega
            · show p < r.2.1 + 1; omega
            · show r.2.2.1 - c.1 ≤ r.2.1 + 1 - p; omega
            · obtain ⟨k, l, u⟩ := b7 ((13, 0) :: w) rfl
              have hw : w ≠ [] := hw
              refine ⟨1 + k + 1, by show ((1 + k + 1 : Nat) : Int) ≤ 2 * (r.2.1 + 1 - p); omega, fun n => ?_⟩
              rw [show n + (1 + k + 1) = (n + 1 + k) + 1 by omega, one, u, yp_C_f, if_neg (show ¬ yp_hd ((13, 0) :: w) = 10 from (by decide : ¬ (13 : Int) = 10)), if_pos h41, yp_la_n (w := (13, 0) :: w) ⟨(show (13 : Int) ≠ 11 by decide), fun _ => (show (13 : Int) ≠ 12 by decide)⟩]
              show (if w = [] then _ else _) = _
              rw [if_neg hw, show o + 1 - 1 = o by omega]
              rfl
          · rw [if_neg h41]
            refine zh_ret ⟨⟨r1, r2⟩, ⟨r3, r4⟩, fun h => ?_, fun _ w _ => ?_⟩
            · have h : -1000 - r.2.1 = 0 := h
              omega
            · obtain ⟨k, l, u⟩ := b7 ((13, 0) :: w) rfl
              refine ⟨1 + k, by omega, fun n => ?_⟩
              rw [show n + (1 + k) + 1 = (n + 1 + k) + 1 by omega, one, u, yp_C_f, if_neg (show ¬ yp_hd ((13, 0) :: w) = 10 from (by decide : ¬ (13 : Int) = 10)), if_neg h41, if_neg b6.1, if_neg b6.2]
        · rw [ze_skipf he, zl_b]
          refine zh_ret ⟨⟨r1, r2⟩, ⟨r3, r4⟩, fun h => absurd h he, fun _ w _ => ?_⟩
          obtain ⟨k, l, u⟩ := rb he ((13, 0) :: w) rfl
          refine ⟨1 + k, by omega, fun n => ?_⟩
          rw [show n + (1 + k) + 1 = (n + k + 1) + 1 by omega, one, u]
      · rw [if_neg ho6, ze_fail p1 (by omega) (by decide) (by decide), zl_b]
        refine zh_ret ⟨⟨p1, p2⟩, ⟨c1, (show c.1 ≤ 200 by omega)⟩, fun h => ?_, fun _ w _ => ⟨0, by omega, fun n => ?_⟩⟩
        · have h : -1000 * 5 - p = 0 := h
          omega
        · show yp_C T len (n + 1) true w o p c = some (.inl (-1000 * 5 - p))
          rw [yp_C_t, if_neg h33, if_pos h40, if_pos (by omega)]
          rfl
    · rw [if_neg h40]
      exact zh_bind (yr_comp hl hT o1 o2 p1 p2 c1 c2 h33 h40) fun q hq => zh_ret hq
end ZRC
theorem yr_allC {T : Int → Int} {len : Int} (hl : len ≤ 200) (hT : ∀ j, 0 ≤ j → j < 220 → 0 ≤ T j ∧ T j ≤ 255) : ∀ (d : Nat) (o : Int), o + d = 6 → 1 ≤ o → ∀ n, yr_ic (fun p c => zg_LawReader_readCondition (n + 3 * d + 3) 0 o 0 p len c.1 T c.2.1 c.2.2) T len o yp_wc yp_noo ∧ yr_ic (fun p c => zg_LawReader_readCondition (n + 3 * d + 1) 2 o 0 p len c.1 T c.2.1 c.2.2) T len o yp_wp yp_any := by
  intro d
  induction d with
  | zero =>
    intro o ho o1 n
    have hp : ∀ n, yr_ic (fun p c => zg_LawReader_readCondition (n + 1) 2 o 0 p len c.1 T c.2.1 c.2.2) T len o yp_wp yp_any := fun n => yr_piece (rc := zg_LawReader_readCondition n) hl o1 (by omega) hT (fun h => absurd h (by omega)) (fun h => absurd h (by omega))
    refine ⟨?_, hp n⟩
    refine yr_cond (rc := zg_LawReader_readCondition (n + 2)) hl (by omega) ?_
    exact yr_part (rc := zg_LawReader_readCondition (n + 1)) hl (by omega) (hp n)
  | succ d ih =>
    intro o ho o1 n
    have hp : ∀ n, yr_ic (fun p c => zg_LawReader_readCondition (n + 3 * (d + 1) + 1) 2 o 0 p len c.1 T c.2.1 c.2.2) T len o yp_wp yp_any := fun n => yr_piece (rc := zg_LawReader_readCondition (n + 3 * (d + 1))) hl o1 (by omega) hT (fun _ => (by
      have := (ih (o + 1) (by omega) (by omega) (n + 2)).2
      rw [show n + 2 + 3 * d + 1 = n + 3 * (d + 1) by omega] at this
      exact this)) (fun _ => (ih (o + 1) (by omega) (by omega) n).1)
    refine ⟨?_, hp n⟩
    refine yr_cond (rc := zg_LawReader_readCondition (n + 3 * (d + 1) + 2)) hl (by omega) ?_
    exact yr_part (rc := zg_LawReader_readCondition (n + 3 * (d + 1) + 1)) hl (by omega) (hp n)
theorem yr_readCondition {T : Int → Int} {len : Int} (hl : len ≤ 200) (hT : ∀ j, 0 ≤ j → j < 220 → 0 ≤ T j ∧ T j ≤ 255) : yr_ic (fun p c => zf_LawReader_readCondition 1 0 p len c.1 T c.2.1 c.2.2) T len 1 yp_wc yp_noo := (yr_allC hl hT 5 1 rfl (by decide) 22).1
end
section
/-! The reference's reader of sums goes as the machine goes. -/
def yk_T (T M : Int → Int) : Prop := ∀ j, 0 ≤ j → j < 220 → zi_and (M j) 255 = T j ∧ 0 ≤ T j ∧ T j ≤ 255
def yk_c (c : zCD) (m : Int) (D : Int → Int) : Prop := (m = c.1 ∧ 0 ≤ c.1) ∧ ∀ j, 0 ≤ j → j < c.1 → D j = 1048576 * zd_op (c.2.1 j) + c.2.2 j ∧ (0 ≤ c.2.1 j ∧ c.2.1 j ≤ 12) ∧ 0 ≤ c.2.2 j ∧ c.2.2 j < 1048576
section ZKE
variable {T M W D : Int → Int} {len p c x y m o k f : Int}
theorem ze_here (hT : yk_T T M) (h1 : 0 ≤ p) (h2 : len ≤ 220) : zf_M_here p len M = some (yp_pk T len p) := by
  unfold zf_M_here yp_pk
  by_cases h : p < len
  · rw [if_pos h, if_pos h, zl_ci h1 (by omega), (hT p h1 (by omega)).1]
  · rw [if_neg h, if_neg h]
theorem ze_wrong (h1 : 0 ≤ p) (h2 : p ≤ 220) (k1 : 0 ≤ x) (k2 : x ≤ 6) : zf_M_wrongAt x p f = some (0, -1000 * x - p) := by
  unfold zf_M_wrongAt
  rw [zi_w_id (x := -1000 * x) (by omega) (by omega), zi_w_id (by omega) (by omega)]
theorem ze_Mdigit (hT : yk_T T M) (h1 : 0 ≤ p) (h2 : len ≤ 220) : zf_M_isDigit p len M = some (if yp_dg (yp_pk T len p) = true then 1 else 0) := by
  unfold zf_M_isDigit
  rw [ze_here hT h1 h2, zl_b, zl_b]
  by_cases a : yp_pk T len p < 48
  · rw [if_pos a, if_neg (fun h => by have := yp_dg_t.mp h; omega)]
  · rw [if_neg a]
    by_cases b : 57 < yp_pk T len p
    · rw [if_pos b, if_neg (fun h => by have := yp_dg_t.mp h; omega)]
    · rw [if_neg b, if_pos (yp_dg_t.mpr (by omega))]
theorem yp_pk_in (hT : yk_T T M) (h1 : 0 ≤ p) (h2 : len ≤ 220) : -1 ≤ yp_pk T len p ∧ yp_pk T len p ≤ 255 := by
  unfold yp_pk
  split
  · have := (hT p h1 (by omega)).2
    omega
  · omega
theorem ze_factOf (h1 : -1 ≤ c) (h2 : c ≤ 255) : zf_M_factOf c = some (yp_lt c) := by
  have h : ∀ k : Nat, k < 257 → zf_M_factOf ((k : Int) - 1) = some (yp_lt ((k : Int) - 1)) := by decide +kernel
  have := h (c + 1).toNat (by omega)
  rwa [show (((c + 1).toNat : Nat) : Int) - 1 = c by omega] at this
theorem ze_sumSign : zf_M_sumSign c = some (yp_ss c) := by
  unfold zf_M_sumSign yp_ss
  (repeat' split) <;> first | rfl | (exfalso; omega)
theorem ze_notes (m1 : 0 ≤ m) (m2 : m < 220) (x1 : 0 ≤ x) (x2 : x ≤ 14) (y1 : 0 ≤ y) (y2 : y < 1048576) : zf_M_notes x y m D = some (m + 1, zv_up D m (1048576 * x + y)) := by
  unfold zf_M_notes
  rw [zl_ci m1 (by omega), zi_w_id (x := m + 1) (by omega) (by omega), zi_w_id (x := 1048576 * x) (by omega) (by omega), zi_w_id (x := 1048576 * x + y) (by omega) (by omega)]
theorem ze_opens (h6 : o ≠ 6) (k1 : 0 ≤ k) (k2 : k < 220) (p1 : 0 ≤ p) (p2 : p ≤ 220) (o1 : 0 ≤ o) (o2 : o ≤ 6) (x1 : 0 ≤ x) (x2 : x ≤ 14) : zf_M_opens x o k p f W = some (1, o + 1, k + 1, p + 1, f, zv_up W k (1048576 * x)) := by
  unfold zf_M_opens
  rw [if_neg h6, zl_ci k1 (by omega), zi_w_id (x := o + 1) (by omega) (by omega), zi_w_id (x := k + 1) (by omega) (by omega), zi_w_id (x := p + 1) (by omega) (by omega), zi_w_id (x := 1048576 * x) (by omega) (by omega)]
theorem ze_opens6 (h6 : o = 6) (p1 : 0 ≤ p) (p2 : p ≤ 220) : zf_M_opens x o k p f W = some (0, o, k, p, -5000 - p, W) := by
  unfold zf_M_opens
  rw [if_pos h6, ze_wrong p1 p2 (by decide) (by decide), zl_b]
  rfl
theorem ze_waitTop0 : zf_M_waitTop 0 W = some (-1) := by
  unfold zf_M_waitTop
  rw [if_pos rfl]
theorem ze_waitTop (k1 : 1 ≤ k) (k2 : k ≤ 220) : zf_M_waitTop k W = some (zi_div (W (k - 1)) 1048576) := by
  unfold zf_M_waitTop
  rw [if_neg (by omega), zi_w_id (x := k - 1) (by omega) (by omega), zl_ci (by omega) (by omega)]
theorem yk_div {s : Int} (h : W k = 1048576 * s + x) (s1 : 0 ≤ s) (s2 : s ≤ 14) (x1 : 0 ≤ x) (x2 : x < 1048576) : zi_div (W k) 1048576 = s ∧ zi_rem (W k) 1048576 = x := by
  rw [h, zi_div_eq (by omega) (by omega) (by decide) (by decide), zi_rem_eq (by omega) (by omega) (by decide) (by decide)]
  constructor <;> omega
end ZKE
theorem yk_c_em {c : zCD} {m kk v : Int} {D : Int → Int} (h : yk_c c m D) (k1 : 0 ≤ kk) (k2 : kk ≤ 12) (v1 : 0 ≤ v) (v2 : v < 1048576) : yk_c (yp_em kk v c) (m + 1) (zv_up D m (1048576 * zd_op kk + v)) := by
  obtain ⟨⟨e, c0⟩, h⟩ := h
  subst e
  refine ⟨⟨rfl, by show 0 ≤ c.1 + 1; omega⟩, fun j j1 j2 => ?_⟩
  have j2 : j < c.1 + 1 := j2
  show zv_up D c.1 _ j = 1048576 * zd_op (zv_up c.2.1 c.1 kk j) + zv_up c.2.2 c.1 v j ∧ (0 ≤ zv_up c.2.1 c.1 kk j ∧ zv_up c.2.1 c.1 kk j ≤ 12) ∧ 0 ≤ zv_up c.2.2 c.1 v j ∧ zv_up c.2.2 c.1 v j < 1048576
  by_cases ej : j = c.1
  · subst ej
    rw [zv_up_s, zv_up_s, zv_up_s]
    exact ⟨rfl, ⟨k1, k2⟩, v1, v2⟩
  · rw [zv_up_n ej, zv_up_n ej, zv_up_n ej]
    exact h j j1 (by omega)
/-- what waits, above a base -/
def yk_w (b : Int) : List Int → (Int → Int) → Int → Prop
  | [], _, k => k = b
  | s :: w, W, k => W (k - 1) = 1048576 * s ∧ ((2 ≤ s ∧ s ≤ 6) ∨ s = 14) ∧ yk_w b w W (k - 1)
def yk_n : List Int → Int
  | [] => 0
  | s :: w => (if s = 14 then 1 else 0) + yk_n w
def yk_b (b : Int) (W : Int → Int) : Prop := b = 0 ∨ (1 ≤ b ∧ 7 ≤ zi_div (W (b - 1)) 1048576)
theorem yk_w_le {b : Int} {W : Int → Int} : ∀ {w : List Int} {k : Int}, yk_w b w W k → k = b + w.length
  | [], k, h => by have h : k = b := h; rw [h]; show b = b + ((0 : Nat) : Int); omega
  | s :: w, k, h => by
    have := yk_w_le (w := w) h.2.2
    show k = b + ((w.length + 1 : Nat) : Int)
    omega
theorem yk_w_up {b : Int} {W W2 : Int → Int} : ∀ {w : List Int} {k : Int}, yk_w b w W k → (∀ j, j < k → W2 j = W j) → yk_w b w W2 k
  | [], _, h, _ => h
  | s :: w, k, h, q => ⟨(q (k - 1) (by omega)).trans h.1, h.2.1, yk_w_up h.2.2 fun j hj => q j (by omega)⟩
theorem yk_n0 : ∀ (w : List Int), 0 ≤ yk_n w
  | [] => Int.le_refl _
  | s :: w => by
    have := yk_n0 w
    show 0 ≤ (if s = 14 then 1 else 0) + yk_n w
    split <;> omega
theorem yk_n_0 : ∀ {w : List Int}, ¬ 14 ∈ w → yk_n w = 0
  | [], _ => rfl
  | s :: w, h => by
    show (if s = 14 then 1 else 0) + yk_n w = 0
    rw [if_neg (fun e => h (by rw [e]; exact List.mem_cons_self)), yk_n_0 (fun k => h (List.mem_cons_of_mem _ k))]
    rfl
theorem yp_cl_len {all : Bool} : ∀ (w : List Int) (c : zCD), (yp_cl all w c).2.1 + (yp_cl all w c).1.length = c.1 + w.length ∧ c.1 ≤ (yp_cl all w c).2.1
  | [], c => ⟨rfl, Int.le_refl _⟩
  | s :: w, c => by
    rw [yp_cl_c]
    split
    · obtain ⟨a, b⟩ := yp_cl_len (all := all) w (yp_em (s + 3) 0 c)
      have e : (yp_em (s + 3) 0 c).1 = c.1 + 1 := rfl
      rw [e] at a b
      refine ⟨?_, by omega⟩
      show _ = c.1 + ((w.length + 1 : Nat) : Int)
      omega
    · exact ⟨rfl, Int.le_refl _⟩
theorem yk_n_cl {all : Bool} : ∀ (w : List Int) (c : zCD), yk_n (yp_cl all w c).1 = yk_n w
  | [], c => rfl
  | s :: w, c => by
    rw [yp_cl_c]
    split
    · rename_i h
      rw [yk_n_cl (all := all) w]
      show yk_n w = (if s = 14 then 1 else 0) + yk_n w
      rw [if_neg (by rcases h with h | ⟨_, h⟩ <;> omega)]
      omega
    · rfl
theorem zd_op_s {s : Int} (h : 2 ≤ s) (h2 : s ≤ 6) : zd_op (s + 3) = s := by
  unfold zd_op
  rw [if_neg (by omega), if_neg (by omega), if_neg (by omega), if_neg (by omega), if_neg (by omega)]
  omega
section ZKS
variable {T M W : Int → Int} {b : Int}
/-- the top of what waits, or what lies under the base -/
theorem yk_closes_b {k m a : Int} {D : Int → Int} {n : Nat} (hb : yk_b b W) (e : k = b) (k2 : k ≤ 220) : zf_M_closesSums_l0 a W (n + 1) k m D = some (k, m, D) := by
  have ht : ∃ t, zf_M_waitTop k W = some t ∧ (t = -1 ∨ 7 ≤ t) := by
    subst e
    rcases hb with h | ⟨h1, h2⟩
    · exact ⟨-1, by rw [h]; exact ze_waitTop0, Or.inl rfl⟩
    · exact ⟨_, ze_waitTop h1 k2, Or.inr h2⟩
  obtain ⟨t, ht, h7⟩ := ht
  show zf_M_closesSums_l0_b a W (zf_M_closesSums_l0 a W n) k m D = _
  unfold zf_M_closesSums_l0_b
  rw [ht, zl_b]
  by_cases ha : a = 0
  · rcases h7 with h | h
    · rw [if_pos (by omega), if_pos ha]
    · rw [if_neg (by omega), zl_b, if_pos (by omega), if_pos ha]
  · rcases h7 with h | h
    · rw [if_pos (by omega), if_neg ha, zl_b, if_neg (by omega), zl_b, if_neg (by omega)]
    · rw [if_neg (by omega), zl_b, if_pos (by omega), if_neg ha, zl_b, if_neg (by omega), zl_b, if_neg (by omega)]
theorem yk_closes {all : Bool} {a : Int} (ha : (a = 0 ∧ all = false) ∨ (a = 1 ∧ all = true)) (hb : yk_b b W) (b0 : 0 ≤ b) : ∀ (w : List Int) (c : zCD) (k m : Int) (D : Int → Int) (n : Nat), yk_w b w W k → k ≤ 220 → yk_c c m D → c.1 + w.length ≤ 220 → w.length < n →
    zh_ok (zf_M_closesSums_l0 a W n k m D) (fun t => yk_w b (yp_cl all w c).1 W t.1 ∧ t.1 ≤ k ∧ yk_c (yp_cl all w c).2 t.2.1 t.2.2) := by
  intro w
  induction w with
  | nil =>
    intro c k m D n hw k2 hc hl hn
    obtain ⟨n, rfl⟩ : ∃ q, n = q + 1 := ⟨n - 1, by omega⟩
    rw [yk_closes_b hb hw k2]
    exact zh_ret ⟨hw, Int.le_refl _, hc⟩
  | cons s w ih =>
    intro c k m D n hw k2 hc hl hn
    obtain ⟨n, rfl⟩ : ∃ q, n = q + 1 := ⟨n - 1, by omega⟩
    have hk := yk_w_le hw
    obtain ⟨w1, w2, w3⟩ := hw
    have hl : c.1 + ((w.length + 1 : Nat) : Int) ≤ 220 := hl
    have hn : w.length + 1 < n + 1 := hn
    have hk : k = b + ((w.length + 1 : Nat) : Int) := hk
    obtain ⟨me, m0⟩ := hc.1
    have top : zf_M_waitTop k W = some s := by
      rw [ze_waitTop (by omega) k2, (yk_div (W := W) (k := k - 1) (s := s) (x := 0) (by rw [w1]; omega) (by omega) (by omega) (by decide) (by decide)).1]
    show zh_ok (zf_M_closesSums_l0_b a W (zf_M_closesSums_l0 a W n) k m D) _
    unfold zf_M_closesSums_l0_b
    rw [top, zl_b, zi_w_id (x := k - 1) (by omega) (by omega)]
    have go : (2 ≤ s ∧ s ≤ 6) → yp_cl all (s :: w) c = yp_cl all w (yp_em (s + 3) 0 c) → zh_ok ((zf_M_notes s 0 m D).bind fun r => (zf_M_closesSums_l0 a W n (k - 1) r.1 r.2)) (fun t => yk_w b (yp_cl all (s :: w) c).1 W t.1 ∧ t.1 ≤ k ∧ yk_c (yp_cl all (s :: w) c).2 t.2.1 t.2.2) := by
      intro hs e
      rw [ze_notes (by omega) (by omega) (by omega) (by omega) (by decide) (by decide), zl_b, e]
      have hc2 := yk_c_em (kk := s + 3) (v := 0) hc (by omega) (by omega) (by decide) (by decide)
      rw [zd_op_s hs.1 hs.2] at hc2
      refine zh_mono (ih (yp_em (s + 3) 0 c) (k - 1) (m + 1) _ n w3 (by omega) hc2 (by show c.1 + 1 + _ ≤ 220; omega) (by omega)) fun t ht => ⟨ht.1, by omega, ht.2.2⟩
    have stop : yp_cl all (s :: w) c = (s :: w, c) → zh_ok (some (k, m, D)) (fun t => yk_w b (yp_cl all (s :: w) c).1 W t.1 ∧ t.1 ≤ k ∧ yk_c (yp_cl all (s :: w) c).2 t.2.1 t.2.2) := by
      intro e
      rw [e]
      exact zh_ret ⟨⟨w1, w2, w3⟩, Int.le_refl _, hc⟩
    by_cases s4 : s < 4
    · rw [if_pos s4]
      rcases ha with ⟨a0, ae⟩ | ⟨a1, ae⟩
      · rw [if_pos a0]
        exact stop (by rw [yp_cl_c, if_neg (by rw [ae]; intro h; rcases h with h | ⟨h, _⟩; omega; cases h)])
      · rw [if_neg (by omega), zl_b]
        by_cases s2 : s = 2
        · rw [if_pos s2, zl_b]
          exact go (by omega) (by rw [yp_cl_c, if_pos (Or.inr ⟨ae, Or.inl s2⟩)])
        · rw [if_neg s2, zl_b]
          have s3 : s = 3 := by omega
          rw [if_pos s3, zl_b]
          exact go (by omega) (by rw [yp_cl_c, if_pos (Or.inr ⟨ae, Or.inr s3⟩)])
    · rw [if_neg s4, zl_b]
      by_cases s6 : 6 < s
      · rw [if_pos s6]
        have e : yp_cl all (s :: w) c = (s :: w, c) := by
          rw [yp_cl_c, if_neg]
          intro h
          rcases h with h | ⟨_, h⟩ <;> omega
        rcases ha with ⟨a0, ae⟩ | ⟨a1, ae⟩
        · rw [if_pos a0]; exact stop e
        · rw [if_neg (by omega), zl_b, if_neg (by omega), zl_b, if_neg (by omega)]; exact stop e
      · rw [if_neg s6, zl_b]
        exact go (by omega) (by rw [yp_cl_c, if_pos (Or.inl (by omega))])
theorem yk_w_mem : ∀ {w : List Int} {k : Int}, 0 ≤ b → yk_w b w W k → (14 ∈ w ↔ ∃ j, b ≤ j ∧ j < k ∧ zi_div (W j) 1048576 = 14)
  | [], k, b0, h => by
    have h : k = b := h
    exact ⟨fun h => (by cases h), fun ⟨j, a, c, _⟩ => by omega⟩
  | s :: w, k, b0, h => by
    have hk := yk_w_le h
    have hk : k = b + ((w.length + 1 : Nat) : Int) := hk
    obtain ⟨h1, h2, h3⟩ := h
    have ih := yk_w_mem b0 h3
    have hd := (yk_div (x := 0) (by rw [h1]; omega) (by omega) (by omega) (by decide) (by decide) : zi_div (W (k - 1)) 1048576 = s ∧ _).1
    rw [List.mem_cons]
    constructor
    · intro h
      rcases h with h | h
      · exact ⟨k - 1, by omega, by omega, by omega⟩
      · obtain ⟨j, a, c, d⟩ := ih.mp h
        exact ⟨j, a, by omega, d⟩
    · intro ⟨j, a, c, d⟩
      by_cases ej : j = k - 1
      · subst ej; left; omega
      · right; exact ih.mpr ⟨j, a, by omega, d⟩
theorem yk_has_l0 {k : Int} (b0 : 0 ≤ b) (k2 : k ≤ 220) : ∀ (q : Nat) (j : Int) (n : Nat), j + q = k → 0 ≤ j → q < n → zf_M_hasOpenSum_l0 k W n j = some (.inl ()) ∧ (¬ ∃ i, j ≤ i ∧ i < k ∧ zi_div (W i) 1048576 = 14) ∨ zf_M_hasOpenSum_l0 k W n j = some (.inr 1) ∧ ∃ i, j ≤ i ∧ i < k ∧ zi_div (W i) 1048576 = 14 := by
  intro q
  induction q with
  | zero =>
    intro j n e j0 hn
    obtain ⟨n, rfl⟩ : ∃ q, n = q + 1 := ⟨n - 1, by omega⟩
    refine Or.inl ⟨?_, fun ⟨i, a, c, _⟩ => by omega⟩
    show zf_M_hasOpenSum_l0_b k W (zf_M_hasOpenSum_l0 k W n) j = _
    unfold zf_M_hasOpenSum_l0_b
    rw [if_neg (by omega)]
  | succ q ih =>
    intro j n e j0 hn
    obtain ⟨n, rfl⟩ : ∃ q, n = q + 1 := ⟨n - 1, by omega⟩
    show zf_M_hasOpenSum_l0_b k W (zf_M_hasOpenSum_l0 k W n) j = _ ∧ _ ∨ zf_M_hasOpenSum_l0_b k W (zf_M_hasOpenSum_l0 k W n) j = _ ∧ _
    unfold zf_M_hasOpenSum_l0_b
    rw [if_pos (by omega), zl_ci j0 (by omega), zi_w_id (x := j + 1) (by omega) (by omega)]
    by_cases h : zi_div (W j) 1048576 = 14
    · rw [if_pos h]
      exact Or.inr ⟨rfl, j, Int.le_refl _, by omega, h⟩
    · rw [if_neg h]
      rcases ih (j + 1) n (by omega) (by omega) (by omega) with ⟨a, c⟩ | ⟨a, i, c1, c2, c3⟩
      · exact Or.inl ⟨a, fun ⟨i, d1, d2, d3⟩ => c ⟨i, by
          by_cases ei : i = j
          · subst ei; exact absurd d3 h
          · omega, d2, d3⟩⟩
      · exact Or.inr ⟨a, i, by omega, c2, c3⟩
theorem ze_hasOpenSum {w : List Int} {k : Int} (b0 : 0 ≤ b) (k2 : k ≤ 220) (hw : yk_w b w W k) : zf_M_hasOpenSum b k W = some (if 14 ∈ w then 1 else 0) := by
  have hk := yk_w_le hw
  unfold zf_M_hasOpenSum
  rcases yk_has_l0 (W := W) b0 k2 w.length b zi_fu (by omega) b0 (by have : 1000 < zi_fu := (by decide); omega) with ⟨a, c⟩ | ⟨a, c⟩
  · rw [a, if_neg (fun h => c ((yk_w_mem b0 hw).mp h))]
    rfl
  · rw [a, if_pos ((yk_w_mem b0 hw).mpr c)]
    rfl
theorem ze_Mnum_l0 {len f x : Int} (hT : yk_T T M) (hl : len ≤ 200) (x0 : 0 ≤ x) : ∀ (k : Nat) (v p : Int) (n : Nat), p + k = x + 5 → k ≤ 5 → k < n → 0 ≤ v → v ≤ yp_bd k → 0 ≤ p → p ≤ len → zf_M_readsNumber_l0 x len f M n p v = if yp_dg (yp_pk T len (yp_nm T len k v p).2) = true then some (.inr (0, (yp_nm T len k v p).2, (yp_nm T len k v p).1, -2000 - (yp_nm T len k v p).2)) else some (.inl ((yp_nm T len k v p).2, (yp_nm T len k v p).1)) := by
  intro k
  induction k with
  | zero =>
    intro v p n e _ hn v1 v2 p1 p2
    obtain ⟨n, rfl⟩ : ∃ q, n = q + 1 := ⟨n - 1, by omega⟩
    show zf_M_readsNumber_l0_b x len f M (zf_M_readsNumber_l0 x len f M n) p v = if yp_dg (yp_pk T len p) = true then some (.inr (0, p, v, -2000 - p)) else some (.inl (p, v))
    unfold zf_M_readsNumber_l0_b
    rw [ze_Mdigit hT p1 (by omega), zl_b, zi_w_id (x := x + 5) (by omega) (by omega)]
    by_cases h : yp_dg (yp_pk T len p) = true
    · rw [if_pos h, if_pos h, if_neg (by decide), if_pos (by omega), ze_wrong p1 (by omega) (by decide) (by decide), zl_b]
      rfl
    · rw [if_neg h, if_neg h, if_pos rfl]
  | succ k ih =>
    intro v p n e hk hn v1 v2 p1 p2
    obtain ⟨n, rfl⟩ : ∃ q, n = q + 1 := ⟨n - 1, by omega⟩
    obtain ⟨b1, b2⟩ := yp_bd_s k (by omega)
    show zf_M_readsNumber_l0_b x len f M (zf_M_readsNumber_l0 x len f M n) p v = _
    unfold zf_M_readsNumber_l0_b
    rw [ze_Mdigit hT p1 (by omega), zl_b, zi_w_id (x := x + 5) (by omega) (by omega)]
    by_cases h : yp_dg (yp_pk T len p) = true
    · have hd := yp_dg_t.mp h
      have hp2 : p < len := yp_pk_lt (T := T) (by omega)
      have e2 : yp_nm T len (k + 1) v p = yp_nm T len k (10 * v + yp_pk T len p - 48) (p + 1) := by
        show (if yp_dg (yp_pk T len p) = true then _ else _) = _
        rw [if_pos h]
      rw [e2, if_pos h, if_neg (by decide), if_neg (by omega), ze_here hT p1 (by omega), zl_b, zi_w_id (x := 10 * v) (by omega) (by omega), zi_w_id (x := 10 * v + yp_pk T len p) (by omega) (by omega), zi_w_id (x := 10 * v + yp_pk T len p - 48) (by omega) (by omega), zi_w_id (x := p + 1) (by omega) (by omega)]
      exact ih _ _ _ (by omega) (by omega) (by omega) (by omega) (by omega) (by omega) (by omega)
    · have e2 : yp_nm T len (k + 1) v p = (v, p) := by
        show (if yp_dg (yp_pk T len p) = true then _ else _) = _
        rw [if_neg h]
      rw [e2, if_neg h, if_pos rfl]
      show _ = if yp_dg (yp_pk T len p) = true then _ else _
      rw [if_neg h]
theorem ze_Mnum {len f g p : Int} (hT : yk_T T M) (hl : len ≤ 200) (p1 : 0 ≤ p) (p2 : p ≤ len) : zf_M_readsNumber p g len f M = some (if yp_dg (yp_pk T len (yp_nm T len 5 0 p).2) = true then (0, (yp_nm T len 5 0 p).2, (yp_nm T len 5 0 p).1, -2000 - (yp_nm T len 5 0 p).2) else (1, (yp_nm T len 5 0 p).2, (yp_nm T len 5 0 p).1, f)) := by
  unfold zf_M_readsNumber
  rw [ze_Mnum_l0 hT hl p1 5 0 p zi_fu (by omega) (by decide) (by decide) (by decide) (by decide) p1 p2]
  by_cases h : yp_dg (yp_pk T len (yp_nm T len 5 0 p).2) = true
  · rw [if_pos h, if_pos h]; rfl
  · rw [if_neg h, if_neg h]; rfl
end ZKS
/-- a state of the reference while it reads a sum -/
def yk_st (b o0 len : Int) (sl : Nat) (lo : Int) (W0 : Int → Int) (w : List Int) (c : zCD) (k p o m : Int) (W D : Int → Int) : Prop :=
  yk_w b w W k ∧ yk_c c m D ∧ o = o0 + yk_n w ∧ (0 ≤ p ∧ p ≤ len) ∧ k ≤ p ∧ (c.1 + w.length + sl ≤ p ∧ lo ≤ c.1) ∧ (∀ j, j < b → W j = W0 j)
section ZKR
variable {T M W0 : Int → Int} {b o0 len lo : Int} {sl : Nat}
theorem ys_fact_l (hT : yk_T T M) (hl : len ≤ 200) (b0 : 0 ≤ b) (o1 : 0 ≤ o0) : ∀ (N : Nat) (w : List Int) (o p : Int) (c : zCD) (k f m num : Int) (W D : Int → Int) (r : Int ⊕ (Int × zCD)) (n : Nat), yp_S T len N true w o p c = some r → yk_st b o0 len sl lo W0 w c k p o m W D → o ≤ 6 → N < n →
    zh_ok (zf_M_readsFactor_l0 len m num M D n p o k f W) (fun t => Sum.elim (fun e => ∃ N' w', N' ≤ N ∧ yp_S T len N' true w' e.2.1 e.1 c = some r ∧ yp_pk T len e.1 ≠ 91 ∧ e.2.1 ≤ 6 ∧ yk_st b o0 len sl lo W0 w' c e.2.2.1 e.1 e.2.1 m e.2.2.2.2 D ∧ e.2.2.2.1 = f) (fun t => t.1 = 0 ∧ r = .inl t.2.2.2.2.1) t) := by
  intro N
  induction N with
  | zero => intro w o p c k f m num W D r n h; exact zl_ns h
  | succ N ih =>
    intro w o p c k f m num W D r n h hs o6 hn
    obtain ⟨n, rfl⟩ : ∃ q, n = q + 1 := ⟨n - 1, by omega⟩
    have hs0 := hs
    obtain ⟨s1, s2, s3, ⟨s4, s5⟩, s6, ⟨s7, s9⟩, s8⟩ := hs
    have hk := yk_w_le s1
    have hn0 := yk_n0 w
    show zh_ok (zf_M_readsFactor_l0_b len m num M D (zf_M_readsFactor_l0 len m num M D n) p o k f W) _
    unfold zf_M_readsFactor_l0_b
    rw [ze_here hT s4 (by omega), zl_b]
    by_cases h91 : yp_pk T len p = 91
    · have hp : p < len := yp_pk_lt (T := T) (by omega)
      rw [yp_S_t, if_pos h91] at h
      rw [if_pos h91]
      by_cases ho : o = 6
      · rw [if_pos ho] at h
        cases h
        rw [ze_opens6 ho s4 (by omega), zl_b]
        show zh_ok (if (0 : Int) = 0 then _ else _) _
        rw [if_pos rfl]
        exact zh_ret ⟨rfl, rfl⟩
      · rw [if_neg ho] at h
        rw [ze_opens ho (by omega) (by omega) s4 (by omega) (by omega) (by omega) (by decide) (by decide), zl_b]
        show zh_ok (if (1 : Int) = 0 then _ else _) _
        rw [if_neg (by decide)]
        have hst : yk_st b o0 len sl lo W0 (14 :: w) c (k + 1) (p + 1) (o + 1) m (zv_up W k (1048576 * 14)) D := by
          refine ⟨⟨?_, Or.inr rfl, ?_⟩, s2, ?_, ⟨by omega, by omega⟩, by omega, ⟨?_, s9⟩, fun j hj => ?_⟩
          · rw [show k + 1 - 1 = k by omega, zv_up_s]
          · rw [show k + 1 - 1 = k by omega]
            exact yk_w_up s1 fun j hj => zv_up_n (by omega)
          · show o + 1 = o0 + ((if (14 : Int) = 14 then 1 else 0) + yk_n w)
            rw [if_pos rfl]; omega
          · show c.1 + ((w.length + 1 : Nat) : Int) + sl ≤ p + 1
            omega
          · rw [zv_up_n (by omega)]; exact s8 j hj
        refine zh_mono (ih (14 :: w) (o + 1) (p + 1) c (k + 1) f m num _ D r n h hst (by omega) (by omega)) fun t ht => ?_
        cases t with
        | inl e =>
          obtain ⟨N', w', a1, a2⟩ := ht
          exact ⟨N', w', by omega, a2⟩
        | inr e => exact ht
    · rw [if_neg h91]
      exact zh_ret ⟨N + 1, w, Nat.le_refl _, h, h91, o6, hs0, rfl⟩
theorem ys_fact (hT : yk_T T M) (hl : len ≤ 200) (b0 : 0 ≤ b) (o1 : 0 ≤ o0) {N : Nat} {w : List Int} {o p : Int} {c : zCD} {k f m num : Int} {W D : Int → Int} {r : Int ⊕ (Int × zCD)} (h : yp_S T len N true w o p c = some r) (hs : yk_st b o0 len sl lo W0 w c k p o m W D) (o6 : o ≤ 6) (hN : N < zi_fu) :
    zh_ok (zf_M_readsFactor p len o k f m num M W D) (fun t => (t.1 = 0 ∧ r = .inl t.2.2.2.2.1) ∨ (t.1 = 1 ∧ ∃ N' w' c', N' < N ∧ yp_S T len N' false w' t.2.2.1 t.2.1 c' = some r ∧ t.2.2.1 ≤ 6 ∧ yk_st b o0 len sl lo W0 w' c' t.2.2.2.1 t.2.1 t.2.2.1 t.2.2.2.2.2.1 t.2.2.2.2.2.2.2.1 t.2.2.2.2.2.2.2.2)) := by
  unfold zf_M_readsFactor
  refine zh_bind (ys_fact_l hT hl b0 o1 N w o p c k f m num W D r zi_fu h hs o6 hN) fun t ht => ?_
  cases t with
  | inr e => exact zh_ret (Or.inl ht)
  | inl e =>
    obtain ⟨N', w', a1, a2, a3, a4, a5, a6⟩ := ht
    show zh_ok ((zf_M_isDigit e.1 len M).bind _) _
    have a5' := a5
    obtain ⟨s1, s2, s3, ⟨s4, s5⟩, s6, ⟨s7, s9⟩, s8⟩ := a5
    obtain ⟨⟨me, m0⟩, -⟩ := id s2
    obtain ⟨N', rfl⟩ : ∃ q, N' = q + 1 := by
      cases N' with
      | zero => exact zl_ns a2
      | succ q => exact ⟨q, rfl⟩
    rw [yp_S_t, if_neg a3] at a2
    rw [ze_Mdigit hT s4 (by omega), zl_b]
    by_cases hd : yp_dg (yp_pk T len e.1) = true
    · rw [if_pos hd] at a2
      rw [if_pos hd, if_neg (by decide), ze_Mnum hT hl s4 s5, zl_b]
      have hdd := yp_dg_t.mp hd
      obtain ⟨q1, q2, q3, q4⟩ := yp_nm_in (T := T) (len := len) 5 0 e.1 (by decide) (by decide) (by decide) s5
      have q5 : e.1 < (yp_nm T len 5 0 e.1).2 := yp_nm_lt (T := T) (k := 4) hd (by decide) (by decide : (0 : Int) ≤ 0) (by decide)
      generalize yp_nm T len 5 0 e.1 = q at a2 q1 q2 q3 q4 q5 ⊢
      by_cases h6 : yp_dg (yp_pk T len q.2) = true
      · rw [if_pos h6] at a2
        cases a2
        rw [if_pos h6]
        show zh_ok (if (0 : Int) = 0 then _ else _) _
        rw [if_pos rfl]
        exact zh_ret (Or.inl ⟨rfl, rfl⟩)
      · rw [if_neg h6] at a2
        rw [if_neg h6]
        show zh_ok (if (1 : Int) = 0 then _ else _) _
        rw [if_neg (by decide)]
        show zh_ok ((zf_M_notes 0 q.1 m D).bind _) _
        rw [ze_notes (by omega) (by omega) (by decide) (by decide) q1.1 (by omega), zl_b]
        have hc2 := yk_c_em (kk := 0) (v := q.1) s2 (by decide) (by decide) q1.1 (by omega)
        refine zh_ret (Or.inr ⟨rfl, N', w', _, by omega, a2, a4, s1, hc2, s3, ⟨?_, q4⟩, ?_, ⟨?_, ?_⟩, s8⟩)
        · show 0 ≤ q.2; omega
        · show e.2.2.1 ≤ q.2; omega
        · show c.1 + 1 + _ + _ ≤ q.2; omega
        · show lo ≤ c.1 + 1; omega
    · rw [if_neg hd] at a2
      rw [if_neg hd, if_pos rfl, ze_here hT s4 (by omega), zl_b]
      have hpi := yp_pk_in hT s4 (show len ≤ 220 by omega)
      rw [ze_factOf hpi.1 hpi.2, zl_b]
      by_cases hl1 : yp_lt (yp_pk T len e.1) = -1
      · rw [if_pos hl1] at a2
        cases a2
        rw [if_pos hl1, ze_wrong s4 (by omega) (by decide) (by decide), zl_b]
        exact zh_ret (Or.inl ⟨rfl, rfl⟩)
      · rw [if_neg hl1] at a2
        have hli := (yp_lt_in (yp_pk T len e.1)).resolve_left hl1
        have hp : e.1 < len := yp_pk_lt (T := T) (fun h => by rw [h] at hl1; exact hl1 (by decide))
        rw [if_neg hl1, ze_notes (by omega) (by omega) (by decide) (by decide) hli.1 (by omega), zl_b, zi_w_id (x := e.1 + 1) (by omega) (by omega)]
        have hc2 := yk_c_em (kk := 1) (v := yp_lt (yp_pk T len e.1)) s2 (by decide) (by decide) hli.1 (by omega)
        refine zh_ret (Or.inr ⟨rfl, N', w', _, by omega, a2, a4, s1, hc2, s3, ⟨?_, ?_⟩, ?_, ⟨?_, ?_⟩, s8⟩)
        · show 0 ≤ e.1 + 1; omega
        · show e.1 + 1 ≤ len; omega
        · show e.2.2.1 ≤ e.1 + 1; omega
        · show c.1 + 1 + _ + _ ≤ e.1 + 1; omega
        · show lo ≤ c.1 + 1; omega
theorem yk_w_all {w : List Int} : ∀ {k : Int} {W : Int → Int}, yk_w b w W k → ∀ s ∈ w, (2 ≤ s ∧ s ≤ 6) ∨ s = 14 := by
  induction w with
  | nil => intro k W _ s hs; cases hs
  | cons s w ih =>
    intro k W h x hx
    rcases List.mem_cons.mp hx with e | e
    · rw [e]; exact h.2.1
    · exact ih h.2.2 x e
theorem yk_cl14 : ∀ (w : List Int) (c : zCD), (∀ s ∈ w, (2 ≤ s ∧ s ≤ 6) ∨ s = 14) → 14 ∈ w → ∃ w2, (yp_cl true w c).1 = 14 :: w2
  | [], _, _, hm => by cases hm
  | s :: w, c, ha, hm => by
    rw [yp_cl_c]
    by_cases h : s = 14
    · subst h
      exact ⟨w, by rw [if_neg (by intro h; rcases h with h | ⟨_, h⟩ <;> omega)]⟩
    · have hs := (ha s List.mem_cons_self).resolve_right h
      rw [if_pos (by
        by_cases h4 : 4 ≤ s
        · exact Or.inl ⟨h4, hs.2⟩
        · exact Or.inr ⟨rfl, by omega⟩)]
      exact yk_cl14 w _ (fun x hx => ha x (List.mem_cons_of_mem _ hx)) ((List.mem_cons.mp hm).resolve_left (fun e => h e.symm))
theorem yk_cl0 : ∀ (w : List Int) (c : zCD), (∀ s ∈ w, (2 ≤ s ∧ s ≤ 6) ∨ s = 14) → ¬ 14 ∈ w → (yp_cl true w c).1 = []
  | [], _, _, _ => rfl
  | s :: w, c, ha, hm => by
    rw [yp_cl_c]
    have hs := (ha s List.mem_cons_self).resolve_right (fun e => hm (by rw [e]; exact List.mem_cons_self))
    rw [if_pos (by
      by_cases h4 : 4 ≤ s
      · exact Or.inl ⟨h4, hs.2⟩
      · exact Or.inr ⟨rfl, by omega⟩)]
    exact yk_cl0 w _ (fun x hx => ha x (List.mem_cons_of_mem _ hx)) (fun e => hm (List.mem_cons_of_mem _ e))
theorem ys_loop (hT : yk_T T M) (hl : len ≤ 200) (b0 : 0 ≤ b) (hb : yk_b b W0) (o1 : 0 ≤ o0) : ∀ (B N : Nat), N ≤ B → B < zi_fu → ∀ (w : List Int) (o p : Int) (c : zCD) (k f m num : Int) (W D : Int → Int) (r : Int ⊕ (Int × zCD)) (n : Nat), yp_S T len N false w o p c = some r → yk_st b o0 len sl lo W0 w c k p o m W D → o ≤ 6 → N < n →
    zh_ok (zf_M_readsSum_l0 b len M n k p o f m num W D) (fun t => Sum.elim (fun e => ∃ w' c', yp_S T len 1 false w' e.2.2.1 e.2.1 c' = some r ∧ yp_ss (yp_pk T len e.2.1) = -1 ∧ ¬ (yp_pk T len e.2.1 = 93 ∧ 14 ∈ w') ∧ yk_st b o0 len sl lo W0 w' c' e.1 e.2.1 e.2.2.1 e.2.2.2.2.1 e.2.2.2.2.2.2.1 e.2.2.2.2.2.2.2) (fun t => t.1 = 0 ∧ r = .inl t.2.2.2.2.1) t) := by
  intro B
  induction B with
  | zero =>
    intro N hN _ w o p c k f m num W D r n h
    obtain rfl : N = 0 := by omega
    exact zl_ns h
  | succ B ih =>
    intro N hN hB w o p c k f m num W D r n h hs o6 hn
    obtain ⟨N, rfl⟩ : ∃ q, N = q + 1 := by
      cases N with
      | zero => exact zl_ns h
      | succ q => exact ⟨q, rfl⟩
    obtain ⟨n, rfl⟩ : ∃ q, n = q + 1 := ⟨n - 1, by omega⟩
    have hs0 := hs
    obtain ⟨s1, s2, s3, ⟨s4, s5⟩, s6, ⟨s7, s9⟩, s8⟩ := hs
    obtain ⟨⟨me, m0⟩, -⟩ := id s2
    have hk := yk_w_le s1
    have hn0 := yk_n0 w
    have hbW : yk_b b W := by
      rcases hb with h | ⟨h1, h2⟩
      · exact Or.inl h
      · exact Or.inr ⟨h1, by rw [s8 _ (by omega)]; exact h2⟩
    have fu : 1000 < zi_fu := by decide
    have h0 := h
    rw [yp_S_f] at h
    show zh_ok (zf_M_readsSum_l0_b b len M (zf_M_readsSum_l0 b len M n) k p o f m num W D) _
    unfold zf_M_readsSum_l0_b
    rw [ze_here hT s4 (by omega), zl_b, ze_sumSign, zl_b]
    by_cases hss : yp_ss (yp_pk T len p) = -1
    · rw [if_neg (fun h => h hss)] at h
      rw [if_pos hss, zl_b]
      by_cases h93 : yp_pk T len p = 93
      · rw [if_pos h93, ze_hasOpenSum b0 (by omega) s1, zl_b]
        by_cases hm : 14 ∈ w
        · rw [if_pos hm, if_pos h93] at h
          rw [if_pos hm, if_neg (by decide)]
          have hp : p < len := yp_pk_lt (T := T) (by omega)
          unfold zf_M_closesSums
          have hcl := yp_cl_len (all := true) w c
          have hnc := yk_n_cl (all := true) w c
          obtain ⟨t, et, t1, t2, t3⟩ := yk_closes (Or.inr ⟨rfl, rfl⟩) hbW b0 w c k m D zi_fu s1 (by omega) s2 (by omega) (by omega)
          rw [et, zl_b, zl_b]
          obtain ⟨w2, hw2⟩ := yk_cl14 w c (yk_w_all s1) hm
          rw [hw2] at t1 h hcl hnc
          obtain ⟨t1a, t1b, t1c⟩ := t1
          have ht := yk_w_le t1c
          have hcl1 : (yp_cl true w c).2.1 + ((w2.length + 1 : Nat) : Int) = c.1 + w.length := hcl.1
          have hnc : (if (14 : Int) = 14 then 1 else 0) + yk_n w2 = yk_n w := hnc
          rw [if_pos rfl] at hnc
          have hn2 := yk_n0 w2
          rw [zi_w_id (x := t.1 - 1) (by omega) (by omega), zi_w_id (x := p + 1) (by omega) (by omega), zi_w_id (x := o - 1) (by omega) (by omega)]
          exact ih N (by omega) (by omega) w2 (o - 1) (p + 1) (yp_cl true w c).2 (t.1 - 1) f t.2.1 num W t.2.2 r n h ⟨t1c, t3, by omega, ⟨by omega, by omega⟩, by omega, ⟨by omega, by have := hcl.2; omega⟩, s8⟩ (by omega) (by omega)
        · rw [if_neg hm, if_pos rfl]
          exact zh_ret ⟨w, c, by rw [yp_S_f, if_neg (fun h => h hss), if_neg hm]; rw [if_neg hm] at h; exact h, hss, fun h => hm h.2, hs0⟩
      · rw [if_neg h93]
        refine zh_ret ⟨w, c, ?_, hss, fun h => h93 h.1, hs0⟩
        rw [yp_S_f, if_neg (fun h => h hss)]
        by_cases hm : 14 ∈ w
        · rw [if_pos hm, if_neg h93] at h ⊢; exact h
        · rw [if_neg hm] at h ⊢; exact h
    · rw [if_pos hss] at h
      have hsr := (yp_ss_in (yp_pk T len p)).resolve_left hss
      have hp : p < len := yp_pk_lt (T := T) (fun e => by rw [e] at hss; exact hss (by decide))
      rw [if_neg hss]
      have go : ∀ all a, ((a = 0 ∧ all = false) ∨ (a = 1 ∧ all = true)) → yp_S T len N true (yp_ss (yp_pk T len p) :: (yp_cl all w c).1) o (p + 1) (yp_cl all w c).2 = some r →
          zh_ok ((zf_M_closesSums a k m W D).bind fun r12 => (cond (zi_ix r12.1 220) ((zf_M_readsFactor (zi_w (p + 1)) len o (zi_w (r12.1 + 1)) f r12.2.1 num M (zv_up W r12.1 (zi_w (1048576 * yp_ss (yp_pk T len p)))) r12.2.2).bind fun r14 => (if r14.1 = 0 then (some (.inr (0, r14.2.2.2.1, r14.2.1, r14.2.2.1, r14.2.2.2.2.1, r14.2.2.2.2.2.1, r14.2.2.2.2.2.2.1, r14.2.2.2.2.2.2.2.1, r14.2.2.2.2.2.2.2.2))) else (zf_M_readsSum_l0 b len M n r14.2.2.2.1 r14.2.1 r14.2.2.1 r14.2.2.2.2.1 r14.2.2.2.2.2.1 r14.2.2.2.2.2.2.1 r14.2.2.2.2.2.2.2.1 r14.2.2.2.2.2.2.2.2))) none))
            (fun t => Sum.elim (fun e => ∃ w' c', yp_S T len 1 false w' e.2.2.1 e.2.1 c' = some r ∧ yp_ss (yp_pk T len e.2.1) = -1 ∧ ¬ (yp_pk T len e.2.1 = 93 ∧ 14 ∈ w') ∧ yk_st b o0 len sl lo W0 w' c' e.1 e.2.1 e.2.2.1 e.2.2.2.2.1 e.2.2.2.2.2.2.1 e.2.2.2.2.2.2.2) (fun t => t.1 = 0 ∧ r = .inl t.2.2.2.2.1) t) := by
        intro all a ha h
        have hcl := yp_cl_len (all := all) w c
        have hnc := yk_n_cl (all := all) w c
        unfold zf_M_closesSums
        obtain ⟨t, et, t1, t2, t3⟩ := yk_closes ha hbW b0 w c k m D zi_fu s1 (by omega) s2 (by omega) (by omega)
        have ht := yk_w_le t1
        rw [et, zl_b, zl_b, zl_ci (show 0 ≤ t.1 by omega) (show t.1 < ((220 : Nat) : Int) by omega)]
        show zh_ok ((zf_M_readsFactor (zi_w (p + 1)) len o (zi_w (t.1 + 1)) f t.2.1 num M (zv_up W t.1 (zi_w (1048576 * yp_ss (yp_pk T len p)))) t.2.2).bind _) _
        rw [zi_w_id (x := p + 1) (by omega) (by omega), zi_w_id (x := t.1 + 1) (by omega) (by omega), zi_w_id (x := 1048576 * yp_ss (yp_pk T len p)) (by omega) (by omega)]
        have hst : yk_st b o0 len sl lo W0 (yp_ss (yp_pk T len p) :: (yp_cl all w c).1) (yp_cl all w c).2 (t.1 + 1) (p + 1) o t.2.1 (zv_up W t.1 (1048576 * yp_ss (yp_pk T len p))) t.2.2 := by
          refine ⟨⟨?_, Or.inl hsr, ?_⟩, t3, ?_, ⟨by omega, by omega⟩, by omega, ⟨?_, by have := hcl.2; omega⟩, fun j hj => ?_⟩
          · rw [show t.1 + 1 - 1 = t.1 by omega, zv_up_s]
          · rw [show t.1 + 1 - 1 = t.1 by omega]
            exact yk_w_up t1 fun j hj => zv_up_n (by omega)
          · show o = o0 + ((if yp_ss (yp_pk T len p) = 14 then 1 else 0) + yk_n (yp_cl all w c).1)
            rw [if_neg (by omega), hnc]; omega
          · show (yp_cl all w c).2.1 + (((yp_cl all w c).1.length + 1 : Nat) : Int) + sl ≤ p + 1
            omega
          · rw [zv_up_n (by omega)]; exact s8 j hj
        refine zh_bind (ys_fact hT hl b0 o1 h hst o6 (by omega)) fun q hq => ?_
        rcases hq with ⟨q1, q2⟩ | ⟨q1, N', w', c', q2, q3, q4, q5⟩
        · rw [if_pos q1]
          exact zh_ret ⟨rfl, q2⟩
        · rw [if_neg (by omega)]
          exact ih N' (by omega) (by omega) w' _ _ c' _ _ _ _ _ _ r n q3 q5 q4 (by omega)
      by_cases h4 : yp_ss (yp_pk T len p) < 4
      · rw [if_pos h4]
        rw [decide_eq_true h4] at h
        exact go true 1 (Or.inr ⟨rfl, rfl⟩) h
      · rw [if_neg h4]
        rw [decide_eq_false h4] at h
        exact go false 0 (Or.inl ⟨rfl, rfl⟩) h
theorem ys_sum (hT : yk_T T M) (hl : len ≤ 200) (b0 : 0 ≤ b) {N : Nat} {o p : Int} {c : zCD} {f m num : Int} {W D : Int → Int} {r : Int ⊕ (Int × zCD)} (h : yp_S T len N true [] o p c = some r) (hN : N < 2000) (hb : yk_b b W) (hc : yk_c c m D) (p1 : 0 ≤ p) (p2 : p ≤ len) (kp : b ≤ p) (cp : c.1 + sl ≤ p) (o1 : 0 ≤ o) (o6 : o ≤ 6) :
    zh_ok (zf_M_readsSum b p len o f m num M W D) (fun t => (t.1 = 0 ∧ r = .inl t.2.2.2.2.1) ∨ (t.1 = 1 ∧ ∃ c', r = .inr (t.2.2.1, c') ∧ t.2.1 = b ∧ t.2.2.2.1 = o ∧ yk_c c' t.2.2.2.2.2.1 t.2.2.2.2.2.2.2.2 ∧ (0 ≤ t.2.2.1 ∧ t.2.2.1 ≤ len) ∧ b ≤ t.2.2.1 ∧ (c'.1 + sl ≤ t.2.2.1 ∧ c.1 ≤ c'.1) ∧ ∀ j, j < b → t.2.2.2.2.2.2.2.1 j = W j)) := by
  have fu : 1000000 < zi_fu := by decide
  unfold zf_M_readsSum
  refine zh_bind (ys_fact (b := b) (o0 := o) (sl := sl) (lo := c.1) (W0 := W) (w := []) hT hl b0 o1 h ⟨rfl, hc, (by show o = o + 0; omega), ⟨p1, p2⟩, kp, ⟨(by show c.1 + ((0 : Nat) : Int) + sl ≤ p; omega), Int.le_refl _⟩, fun _ _ => rfl⟩ o6 (by omega)) fun q hq => ?_
  rcases hq with ⟨q1, q2⟩ | ⟨q1, N', w', c', q2, q3, q4, q5⟩
  · rw [if_pos q1]
    exact zh_ret (Or.inl ⟨rfl, q2⟩)
  · rw [if_neg (by omega)]
    refine zh_bind (ys_loop hT hl b0 hb o1 2000 N' (by omega) (by omega) w' _ _ c' _ _ _ _ _ _ r zi_fu q3 q5 q4 (by omega)) fun t ht => ?_
    cases t with
    | inr e => exact zh_ret (Or.inl ht)
    | inl e =>
      obtain ⟨w2, c2, a1, a2, a3, a4⟩ := ht
      obtain ⟨s1, s2, s3, ⟨s4, s5⟩, s6, ⟨s7, s9⟩, s8⟩ := a4
      have hk := yk_w_le s1
      rw [yp_S_f, if_neg (fun h => h a2)] at a1
      show zh_ok ((zf_M_hasOpenSum b e.1 e.2.2.2.2.2.2.1).bind _) _
      rw [ze_hasOpenSum b0 (by omega) s1, zl_b]
      by_cases hm : 14 ∈ w2
      · rw [if_pos hm, if_neg (fun h => a3 ⟨h, hm⟩)] at a1
        cases a1
        rw [if_pos hm, if_neg (by decide), ze_wrong s4 (by omega) (by decide) (by decide), zl_b]
        exact zh_ret (Or.inl ⟨rfl, rfl⟩)
      · rw [if_neg hm] at a1
        cases a1
        rw [if_neg hm, if_pos rfl]
        have hbW : yk_b b e.2.2.2.2.2.2.1 := by
          rcases hb with h | ⟨h1, h2⟩
          · exact Or.inl h
          · exact Or.inr ⟨h1, by rw [s8 _ (by omega)]; exact h2⟩
        have hcl := yp_cl_len (all := true) w2 c2
        have h0 := yk_cl0 w2 c2 (yk_w_all s1) hm
        unfold zf_M_closesSums
        obtain ⟨t, et, t1, t2, t3⟩ := yk_closes (Or.inr ⟨rfl, rfl⟩) hbW b0 w2 c2 e.1 e.2.2.2.2.1 e.2.2.2.2.2.2.2 zi_fu s1 (by omega) s2 (by omega) (by omega)
        rw [et, zl_b, zl_b]
        rw [h0] at t1 hcl
        have t1 : t.1 = b := t1
        have hcl1 : (yp_cl true w2 c2).2.1 + ((0 : Nat) : Int) = c2.1 + w2.length := hcl.1
        have hz := yk_n_0 hm
        refine zh_ret (Or.inr ⟨rfl, _, rfl, t1, ?_, t3, ⟨s4, s5⟩, ?_, ⟨?_, by have := hcl.2; omega⟩, s8⟩)
        · show e.2.2.1 = o; omega
        · show b ≤ e.2.1; omega
        · show (yp_cl true w2 c2).2.1 + sl ≤ e.2.1; omega
end ZKR
end
section
/-! The reference's reader of conditions goes as the machine goes. -/
def yk_v : zWT → (Int → Int) → Int → Prop
  | [], _, k => k = 0
  | s :: w, W, k => W (k - 1) = 1048576 * s.1 + s.2 ∧ (10 ≤ s.1 ∧ s.1 ≤ 13) ∧ (0 ≤ s.2 ∧ s.2 < 200) ∧ yk_v w W (k - 1)
def yk_nn : zWT → Int
  | [] => 0
  | s :: w => (if s.1 = 10 then 1 else 0) + yk_nn w
def yk_no : zWT → Int
  | [] => 0
  | s :: w => (if s.1 = 10 ∨ s.1 = 13 then 1 else 0) + yk_no w
theorem yk_no_le : ∀ (w : zWT), yk_no w ≤ w.length
  | [] => Int.le_refl _
  | s :: w => by
    have := yk_no_le w
    show (if s.1 = 10 ∨ s.1 = 13 then 1 else 0) + yk_no w ≤ ((w.length + 1 : Nat) : Int)
    split <;> omega
def yk_j (w : zWT) (c : zCD) : Prop := ∀ s ∈ w, s.1 = 11 ∨ s.1 = 12 → s.2 < c.1
theorem yk_v_le {W : Int → Int} : ∀ {w : zWT} {k : Int}, yk_v w W k → k = w.length
  | [], k, h => h
  | s :: w, k, h => by
    have := yk_v_le (w := w) h.2.2.2
    show k = ((w.length + 1 : Nat) : Int)
    omega
theorem yk_v_up {W W2 : Int → Int} : ∀ {w : zWT} {k : Int}, yk_v w W k → (∀ j, j < k → W2 j = W j) → yk_v w W2 k
  | [], _, h, _ => h
  | s :: w, k, h, q => ⟨(q (k - 1) (by omega)).trans h.1, h.2.1, h.2.2.1, yk_v_up h.2.2.2 fun j hj => q j (by omega)⟩
theorem yk_nn0 : ∀ (w : zWT), 0 ≤ yk_nn w
  | [] => Int.le_refl _
  | s :: w => by
    have := yk_nn0 w
    show 0 ≤ (if s.1 = 10 then 1 else 0) + yk_nn w
    split <;> omega
theorem yk_no0 : ∀ (w : zWT), 0 ≤ yk_no w
  | [] => Int.le_refl _
  | s :: w => by
    have := yk_no0 w
    show 0 ≤ (if s.1 = 10 ∨ s.1 = 13 then 1 else 0) + yk_no w
    split <;> omega
def yk_bt : zWT → Prop
  | [] => False
  | s :: w => (w = [] ∧ s.1 = 13) ∨ yk_bt w
theorem yk_bt_la {all : Bool} : ∀ (w : zWT) (c : zCD), yk_bt w → yk_bt (yp_la all w c).1
  | [], _, h => h
  | s :: w, c, h => by
    rw [yp_la_c]
    split
    · rename_i q
      rcases h with ⟨_, h⟩ | h
      · exfalso
        rcases q with q | ⟨_, q⟩ <;> omega
      · exact yk_bt_la w _ h
    · exact h
def yk_cst (len : Int) (w : zWT) (c : zCD) (k p o m : Int) (W D : Int → Int) : Prop :=
  yk_v w W k ∧ yk_c c m D ∧ yk_j w c ∧ o = yk_no w ∧ (0 ≤ p ∧ p ≤ len) ∧ k ≤ p ∧ c.1 + yk_nn w ≤ p ∧ yk_bt w
section ZKC
variable {T M W : Int → Int} {len : Int}
theorem yk_top {s : Int × Int} {w : zWT} {k : Int} (h : yk_v (s :: w) W k) (k2 : k ≤ 220) : zf_M_waitTop k W = some s.1 := by
  have hk := yk_v_le h
  have hk : k = ((w.length + 1 : Nat) : Int) := hk
  rw [ze_waitTop (by omega) k2, (yk_div (W := W) (k := k - 1) (s := s.1) (x := s.2) h.1 (by have := h.2.1; omega) (by have := h.2.1; omega) h.2.2.1.1 (by have := h.2.2.1; omega)).1]
theorem yk_hd {w : zWT} {k : Int} (h : yk_v w W k) (k2 : k ≤ 220) : ∃ t, zf_M_waitTop k W = some t ∧ (t = 10 ↔ yp_hd w = 10) ∧ (t = 11 ↔ yp_hd w = 11) ∧ (t = 12 ↔ yp_hd w = 12) := by
  cases w with
  | nil =>
    have h : k = 0 := h
    subst h
    exact ⟨-1, ze_waitTop0, by decide, by decide, by decide⟩
  | cons s w => exact ⟨s.1, yk_top h k2, Iff.rfl, Iff.rfl, Iff.rfl⟩
theorem yk_base {w : zWT} {k : Int} (h : yk_v w W k) : yk_b k W := by
  cases w with
  | nil => exact Or.inl h
  | cons s w =>
    have hk := yk_v_le h
    have hk : k = ((w.length + 1 : Nat) : Int) := hk
    refine Or.inr ⟨by omega, ?_⟩
    rw [(yk_div (W := W) (k := k - 1) (s := s.1) (x := s.2) h.1 (by have := h.2.1; omega) (by have := h.2.1; omega) h.2.2.1.1 (by have := h.2.2.1; omega)).1]
    have := h.2.1
    omega
theorem yk_c_ln {c : zCD} {m j : Int} {D : Int → Int} (h : yk_c c m D) (j1 : 0 ≤ j) (j2 : j < c.1) (hc : c.1 < 1048576) : yk_c (yp_ln j c) m (zv_up D j (1048576 * zd_op (c.2.1 j) + m)) := by
  obtain ⟨⟨e, c0⟩, h⟩ := h
  subst e
  refine ⟨⟨rfl, c0⟩, fun i i1 i2 => ?_⟩
  have i2 : i < c.1 := i2
  show zv_up D j _ i = 1048576 * zd_op (c.2.1 i) + zv_up c.2.2 j c.1 i ∧ (0 ≤ c.2.1 i ∧ c.2.1 i ≤ 12) ∧ 0 ≤ zv_up c.2.2 j c.1 i ∧ zv_up c.2.2 j c.1 i < 1048576
  by_cases ei : i = j
  · subst ei
    rw [zv_up_s, zv_up_s]
    exact ⟨rfl, (h i i1 i2).2.1, c0, hc⟩
  · rw [zv_up_n ei, zv_up_n ei]
    exact h i i1 i2
theorem yp_la_1 {all : Bool} : ∀ (w : zWT) (c : zCD), (yp_la all w c).2.1 = c.1 ∧ yk_nn (yp_la all w c).1 = yk_nn w ∧ yk_no (yp_la all w c).1 = yk_no w ∧ (yp_la all w c).1.length ≤ w.length
  | [], c => ⟨rfl, rfl, rfl, Nat.le_refl _⟩
  | s :: w, c => by
    rw [yp_la_c]
    split
    · rename_i h
      obtain ⟨a, b, d, e⟩ := yp_la_1 (all := all) w (yp_ln s.2 c)
      refine ⟨a, ?_, ?_, Nat.le_succ_of_le e⟩
      · rw [b]
        show yk_nn w = (if s.1 = 10 then 1 else 0) + yk_nn w
        rw [if_neg (by rcases h with h | ⟨_, h⟩ <;> omega)]; omega
      · rw [d]
        show yk_no w = (if s.1 = 10 ∨ s.1 = 13 then 1 else 0) + yk_no w
        rw [if_neg (by rcases h with h | ⟨_, h⟩ <;> omega)]; omega
    · exact ⟨rfl, rfl, rfl, Nat.le_refl _⟩
theorem zl_w20 {q : Int} (h1 : 0 ≤ q) (h2 : q ≤ 12) : zi_w (1048576 * q) = 1048576 * q := zi_w_id (by omega) (by omega)
theorem zl_w21 {q m : Int} (h1 : 0 ≤ q) (h2 : q ≤ 12) (m1 : 0 ≤ m) (m2 : m ≤ 220) : zi_w (1048576 * q + m) = 1048576 * q + m := zi_w_id (by omega) (by omega)
theorem zd_op_in {k : Int} (h1 : 0 ≤ k) (h2 : k ≤ 12) : 0 ≤ zd_op k ∧ zd_op k ≤ 12 := by
  have h : ∀ n : Nat, n < 13 → 0 ≤ zd_op (n : Int) ∧ zd_op (n : Int) ≤ 12 := by decide
  have := h k.toNat (by omega)
  rwa [show ((k.toNat : Nat) : Int) = k by omega] at this
theorem yk_lands {all : Bool} {a : Int} (ha : (a = 0 ∧ all = false) ∨ (a = 1 ∧ all = true)) : ∀ (w : zWT) (c : zCD) (k m : Int) (D : Int → Int) (n : Nat), yk_v w W k → k ≤ 220 → yk_c c m D → yk_j w c → c.1 ≤ 220 → w.length < n →
    zh_ok (zf_M_lands_l0 a m W n k D) (fun t => yk_v (yp_la all w c).1 W t.1 ∧ yk_c (yp_la all w c).2 m t.2 ∧ yk_j (yp_la all w c).1 (yp_la all w c).2) := by
  intro w
  induction w with
  | nil =>
    intro c k m D n hw k2 hc hj hl hn
    obtain ⟨n, rfl⟩ : ∃ q, n = q + 1 := ⟨n - 1, by omega⟩
    have hk : k = 0 := hw
    show zh_ok (zf_M_lands_l0_b a m W (zf_M_lands_l0 a m W n) k D) _
    unfold zf_M_lands_l0_b
    subst hk
    rw [ze_waitTop0, zl_b, if_neg (by decide)]
    by_cases h0 : a = 0
    · rw [if_pos h0]; exact zh_ret ⟨hw, hc, hj⟩
    · rw [if_neg h0, zl_b, if_neg (by decide)]; exact zh_ret ⟨hw, hc, hj⟩
  | cons s w ih =>
    intro c k m D n hw k2 hc hj hl hn
    obtain ⟨n, rfl⟩ : ∃ q, n = q + 1 := ⟨n - 1, by omega⟩
    have hk := yk_v_le hw
    have hk : k = ((w.length + 1 : Nat) : Int) := hk
    have hn : w.length + 1 < n + 1 := hn
    have top := yk_top hw k2
    obtain ⟨w1, w2, w3, w4⟩ := id hw
    obtain ⟨me, m0⟩ := hc.1
    show zh_ok (zf_M_lands_l0_b a m W (zf_M_lands_l0 a m W n) k D) _
    unfold zf_M_lands_l0_b
    rw [top, zl_b, zi_w_id (x := k - 1) (by omega) (by omega)]
    obtain ⟨d1, d2⟩ := yk_div (W := W) (k := k - 1) (s := s.1) (x := s.2) w1 (by omega) (by omega) w3.1 (by omega)
    have go : s.1 = 11 ∨ s.1 = 12 → yp_la all (s :: w) c = yp_la all w (yp_ln s.2 c) → zh_ok (cond (zi_ix (k - 1) 220) (cond (zi_ix (zi_rem (W (k - 1)) 1048576) 220) (zf_M_lands_l0 a m W n (k - 1) (zv_up D (zi_rem (W (k - 1)) 1048576) (zi_w ((zi_w (1048576 * (zi_div (D (zi_rem (W (k - 1)) 1048576)) 1048576))) + m)))) none) none) (fun t => yk_v (yp_la all (s :: w) c).1 W t.1 ∧ yk_c (yp_la all (s :: w) c).2 m t.2 ∧ yk_j (yp_la all (s :: w) c).1 (yp_la all (s :: w) c).2) := by
      intro hs e
      have u3 : 0 ≤ k - 1 ∧ k - 1 < ((220 : Nat) : Int) := by omega
      have u4 : 0 ≤ s.2 ∧ s.2 < ((220 : Nat) : Int) := by omega
      have u5 : k - 1 ≤ 220 := by omega
      have u6 : c.1 < 1048576 := by omega
      have u7 : w.length < n := by omega
      have j2 := hj s List.mem_cons_self hs
      obtain ⟨q1, q2, q3, q4⟩ := hc.2 s.2 w3.1 j2
      have q5 := (zd_cd q1 q2.1 q2.2 q3 q4).1
      have q6 := zd_op_in q2.1 q2.2
      have u1 := zl_w20 q6.1 q6.2
      have u2 := zl_w21 q6.1 q6.2 (m := m) (by rw [me]; exact m0) (by rw [me]; exact hl)
      rw [zl_ci u3.1 u3.2, d2, zl_ci u4.1 u4.2, q5, u1, u2, e]
      exact ih (yp_ln s.2 c) (k - 1) m _ n w4 u5 (yk_c_ln hc w3.1 j2 u6) (fun x hx h => hj x (List.mem_cons_of_mem _ hx) h) hl u7
    by_cases h11 : s.1 = 11
    · rw [if_pos h11]
      exact go (Or.inl h11) (by rw [yp_la_c, if_pos (Or.inl h11)])
    · rw [if_neg h11]
      rcases ha with ⟨a0, ae⟩ | ⟨a1, ae⟩
      · rw [if_pos a0]
        have e : yp_la all (s :: w) c = (s :: w, c) := by
          rw [yp_la_c, if_neg]
          rw [ae]
          intro h
          rcases h with h | ⟨h, _⟩
          · exact h11 h
          · cases h
        rw [e]
        exact zh_ret ⟨hw, hc, hj⟩
      · rw [if_neg (by omega), zl_b]
        by_cases h12 : s.1 = 12
        · rw [if_pos h12]
          exact go (Or.inr h12) (by rw [yp_la_c, if_pos (Or.inr ⟨ae, h12⟩)])
        · rw [if_neg h12]
          have e : yp_la all (s :: w) c = (s :: w, c) := by
            rw [yp_la_c, if_neg]
            intro h
            rcases h with h | ⟨_, h⟩
            · exact h11 h
            · exact h12 h
          rw [e]
          exact zh_ret ⟨hw, hc, hj⟩
theorem yk_ends {p : Int} {r : Int ⊕ (Int × zCD)} (hl : len ≤ 200) : ∀ (N : Nat) (w : zWT) (o : Int) (c : zCD) (k m : Int) (D : Int → Int) (n : Nat), yp_C T len N false w o p c = some r → yk_cst len w c k p o m W D → N < n →
    zh_ok (zf_M_endsPiece_l0 W n k m o D) (fun t => ∃ N' w' c', N' ≤ N ∧ yp_C T len N' false w' t.2.2.1 p c' = some r ∧ yp_hd w' ≠ 10 ∧ yk_cst len w' c' t.1 p t.2.2.1 t.2.1 W t.2.2.2 ∧ t.2.2.1 ≤ o) := by
  intro N
  induction N with
  | zero => intro w o c k m D n h; exact zl_ns h
  | succ N ih =>
    intro w o c k m D n h hs hn
    obtain ⟨n, rfl⟩ : ∃ q, n = q + 1 := ⟨n - 1, by omega⟩
    have hs0 := hs
    obtain ⟨s1, s2, s3, s4, ⟨s5, s6⟩, s7, s8, s9⟩ := hs
    obtain ⟨t, ht, t10, -⟩ := yk_hd s1 (by omega)
    obtain ⟨me, m0⟩ := s2.1
    show zh_ok (zf_M_endsPiece_l0_b W (zf_M_endsPiece_l0 W n) k m o D) _
    unfold zf_M_endsPiece_l0_b
    rw [ht, zl_b]
    by_cases h10 : yp_hd w = 10
    · rw [if_pos (t10.mpr h10)]
      rw [yp_C_f, if_pos h10] at h
      cases w with
      | nil => cases h10
      | cons s w =>
        have h10 : s.1 = 10 := h10
        have hk := yk_v_le s1
        have hk : k = ((w.length + 1 : Nat) : Int) := hk
        have s4 : o = (if s.1 = 10 ∨ s.1 = 13 then 1 else 0) + yk_no w := s4
        have s8 : c.1 + ((if s.1 = 10 then 1 else 0) + yk_nn w) ≤ p := s8
        rw [if_pos (Or.inl h10)] at s4
        rw [if_pos h10] at s8
        have := yk_nn0 w
        have := yk_no0 w
        have hno := yk_no_le w
        rw [ze_notes (by omega) (by omega) (by decide) (by decide) (by decide) (by decide), zl_b, zi_w_id (x := k - 1) (by omega) (by omega), zi_w_id (x := o - 1) (by omega) (by omega)]
        have hc2 := yk_c_em (kk := 2) (v := 0) s2 (by decide) (by decide) (by decide) (by decide)
        refine zh_mono (ih w (o - 1) (yp_em 2 0 c) (k - 1) (m + 1) _ n h ⟨s1.2.2.2, hc2, fun x hx hh => ?_, by omega, ⟨s5, s6⟩, by omega, ?_, ?_⟩ (by omega)) fun t ⟨N', w', c', a1, a2, a3, a4, a5⟩ => ⟨N', w', c', by omega, a2, a3, a4, by omega⟩
        · have := s3 x (List.mem_cons_of_mem _ hx) hh
          show x.2 < c.1 + 1; omega
        · show c.1 + 1 + yk_nn w ≤ p; omega
        · rcases s9 with ⟨_, h⟩ | h
          · omega
          · exact h
    · rw [if_neg (fun e => h10 (t10.mp e))]
      exact zh_ret ⟨N + 1, w, c, Nat.le_refl _, h, h10, hs0, Int.le_refl _⟩
end ZKC
end
section
/-! two sums compared -/
section ZKD
variable {T M : Int → Int} {len : Int}
theorem ys_comp (hT : yk_T T M) (hl : len ≤ 200) {N : Nat} {w : zWT} {o p : Int} {c : zCD} {k f m num : Int} {W D : Int → Int} {r : Int ⊕ (Int × zCD)} (h : yp_C T len (N + 1) true w o p c = some r) (h33 : yp_pk T len p ≠ 33) (h40 : yp_pk T len p ≠ 40) (hs : yk_cst len w c k p o m W D) (o6 : o ≤ 6) (hN : N < 2000) :
    zh_ok (zf_M_readsCompared k p len o f m num M W D) (fun t => (t.1 = 0 ∧ r = .inl t.2.2.2.2.1) ∨ (t.1 = 1 ∧ ∃ N' w' c', N' ≤ N ∧ yp_C T len N' false w' t.2.2.2.1 t.2.2.1 c' = some r ∧ yp_hd w' ≠ 10 ∧ t.2.2.2.1 ≤ 6 ∧ yk_cst len w' c' t.2.1 t.2.2.1 t.2.2.2.1 t.2.2.2.2.2.1 t.2.2.2.2.2.2.2.1 t.2.2.2.2.2.2.2.2)) := by
  have fu : 1000000 < zi_fu := by decide
  obtain ⟨s1, s2, s3, s4, ⟨s5, s6⟩, s7, s8, s9⟩ := hs
  have n1 := yk_nn0 w
  have n2 := yk_no0 w
  have hk := yk_v_le s1
  rw [yp_C_t, if_neg h33, if_neg h40] at h
  obtain ⟨q, hq, h⟩ := zi_bind h
  unfold zf_M_readsCompared
  refine zh_bind (ys_sum (sl := (yk_nn w).toNat) hT hl (by omega) hq (by decide) (yk_base s1) s2 s5 s6 s7 (by omega) (by omega) o6) fun t ht => ?_
  rcases ht with ⟨t1, t2⟩ | ⟨t1, c1, t2, t3, t4, t5, ⟨t6, t7⟩, t8, ⟨t9, t11⟩, t10⟩
  · subst t2
    simp only [Sum.elim_inl] at h
    cases h
    rw [if_pos t1]
    exact zh_ret (Or.inl ⟨rfl, rfl⟩)
  · subst t2
    simp only [Sum.elim_inr] at h
    have v1 := yk_v_up s1 t10
    rw [if_neg (by omega), ze_here hT t6 (by omega), zl_b]
    have step : ∀ kk op, yp_cs (yp_pk T len t.2.2.1) = kk → (10 ≤ kk ∧ kk ≤ 12) → op = zd_op kk →
        zh_ok ((zf_M_readsSum t.2.1 (zi_w (t.2.2.1 + 1)) len t.2.2.2.1 t.2.2.2.2.1 t.2.2.2.2.2.1 t.2.2.2.2.2.2.1 M t.2.2.2.2.2.2.2.1 t.2.2.2.2.2.2.2.2).bind fun r23 => (if r23.1 = 0 then (some ((0 : Int), r23.2.1, r23.2.2.1, r23.2.2.2.1, r23.2.2.2.2.1, r23.2.2.2.2.2.1, r23.2.2.2.2.2.2.1, r23.2.2.2.2.2.2.2.1, r23.2.2.2.2.2.2.2.2)) else ((zf_M_notes op 0 r23.2.2.2.2.2.1 r23.2.2.2.2.2.2.2.2).bind fun r25 => ((zf_M_endsPiece r23.2.1 r25.1 r23.2.2.2.1 r23.2.2.2.2.2.2.2.1 r25.2).bind fun r26 => (some ((1 : Int), r26.1, r23.2.2.1, r26.2.2.1, r23.2.2.2.2.1, r26.2.1, r23.2.2.2.2.2.2.1, r23.2.2.2.2.2.2.2.1, r26.2.2.2))))))
        (fun t => (t.1 = 0 ∧ r = .inl t.2.2.2.2.1) ∨ (t.1 = 1 ∧ ∃ N' w' c', N' ≤ N ∧ yp_C T len N' false w' t.2.2.2.1 t.2.2.1 c' = some r ∧ yp_hd w' ≠ 10 ∧ t.2.2.2.1 ≤ 6 ∧ yk_cst len w' c' t.2.1 t.2.2.1 t.2.2.2.1 t.2.2.2.2.2.1 t.2.2.2.2.2.2.2.1 t.2.2.2.2.2.2.2.2)) := by
      intro kk op hkk k12 hop
      rw [if_neg (by omega)] at h
      have hp : t.2.2.1 < len := yp_pk_lt (T := T) (fun e => by rw [e] at hkk; have : yp_cs (-1) = -1 := (by decide); omega)
      obtain ⟨q2, hq2, h⟩ := zi_bind h
      rw [zi_w_id (x := t.2.2.1 + 1) (by omega) (by omega), t3, t4]
      refine zh_bind (ys_sum (sl := (yk_nn w).toNat + 1) hT hl (by omega) hq2 (by decide) (yk_base v1) t5 (by omega) (by omega) (by omega) (by omega) (by omega) o6) fun u hu => ?_
      rcases hu with ⟨u1, u2⟩ | ⟨u1, c2, u2, u3, u4, u5, ⟨u6, u7⟩, u8, ⟨u9, u11⟩, u10⟩
      · subst u2
        simp only [Sum.elim_inl] at h
        cases h
        rw [if_pos u1]
        exact zh_ret (Or.inl ⟨rfl, rfl⟩)
      · subst u2
        simp only [Sum.elim_inr] at h
        rw [hkk] at h
        rw [if_neg (by omega)]
        have hop12 : 0 ≤ op ∧ op ≤ 12 := by rw [hop]; unfold zd_op; (repeat' split) <;> omega
        obtain ⟨me, m0⟩ := u5.1
        rw [ze_notes (by omega) (by omega) (by omega) (by omega) (by decide) (by decide), zl_b]
        have hc2 := yk_c_em (kk := kk) (v := 0) u5 (by omega) (by omega) (by decide) (by decide)
        rw [← hop] at hc2
        have v2 := yk_v_up v1 u10
        unfold zf_M_endsPiece
        obtain ⟨y, ey, N', w', c', a1, a2, a3, a4, a5⟩ := yk_ends (T := T) (p := u.2.2.1) (r := r) hl N w o (yp_em kk 0 c2) u.2.1 _ _ zi_fu h ⟨by rw [u3]; exact v2, hc2, fun x hx hh => by
          have := s3 x hx hh
          show x.2 < c2.1 + 1; omega, s4, ⟨u6, u7⟩, by omega, by show c2.1 + 1 + yk_nn w ≤ u.2.2.1; omega, s9⟩ (by omega)
        rw [u4, ey, zl_b, zl_b]
        refine zh_ret (Or.inr ⟨rfl, N', w', c', a1, a2, a3, ?_, a4⟩)
        show y.2.2.1 ≤ 6
        omega
    by_cases h60 : yp_pk T len t.2.2.1 = 60
    · rw [if_pos h60]
      exact step 10 7 (by rw [h60]; rfl) ⟨by decide, by decide⟩ rfl
    rw [if_neg h60, zl_b]
    by_cases h62 : yp_pk T len t.2.2.1 = 62
    · rw [if_pos h62]
      exact step 11 8 (by rw [h62]; rfl) ⟨by decide, by decide⟩ rfl
    rw [if_neg h62, zl_b]
    by_cases h61 : yp_pk T len t.2.2.1 = 61
    · rw [if_pos h61]
      exact step 12 9 (by rw [h61]; rfl) ⟨by decide, by decide⟩ rfl
    rw [if_pos (by unfold yp_cs; rw [if_neg h60, if_neg h62, if_neg h61])] at h
    cases h
    rw [if_neg h61, ze_wrong t6 (by omega) (by decide) (by decide), zl_b]
    exact zh_ret (Or.inl ⟨rfl, rfl⟩)
end ZKD
end
section
/-! The reference's reader of conditions, second half. -/
section ZKD2
variable {T M : Int → Int} {len : Int}
/-- behind a piece: what closes -/
theorem ys_close (hT : yk_T T M) (hl : len ≤ 200) {f num : Int} {W : Int → Int} : ∀ (B N : Nat), N ≤ B → B < 2000 → ∀ (w : zWT) (o p : Int) (c : zCD) (k m : Int) (D : Int → Int) (r : Int ⊕ (Int × zCD)) (n : Nat), yp_C T len N false w o p c = some r → yp_hd w ≠ 10 → yk_cst len w c k p o m W D → o ≤ 6 → N < n →
    zh_ok (zf_M_readsCondition_l1 len f num M W n p o k m D) (fun t => Sum.elim (fun e => ∃ N' w' c', N' ≤ N ∧ yp_C T len N' false w' e.2.1 e.1 c' = some r ∧ yp_hd w' ≠ 10 ∧ yp_pk T len e.1 ≠ 41 ∧ e.2.1 ≤ 6 ∧ yk_cst len w' c' e.2.2.1 e.1 e.2.1 e.2.2.2.1 W e.2.2.2.2) (fun t => t.1 = 1 ∧ ∃ c', r = .inr (t.2.1, c') ∧ yk_c c' t.2.2.2.2.2.1 t.2.2.2.2.2.2.2.2 ∧ (0 ≤ t.2.1 ∧ t.2.1 ≤ len) ∧ c'.1 ≤ t.2.1) t) := by
  intro B
  induction B with
  | zero =>
    intro N hN _ w o p c k m D r n h
    obtain rfl : N = 0 := by omega
    exact zl_ns h
  | succ B ih =>
    intro N hN hB w o p c k m D r n h h10 hs o6 hn
    obtain ⟨N, rfl⟩ : ∃ q, N = q + 1 := by
      cases N with
      | zero => exact zl_ns h
      | succ q => exact ⟨q, rfl⟩
    obtain ⟨n, rfl⟩ : ∃ q, n = q + 1 := ⟨n - 1, by omega⟩
    have fu : 1000000 < zi_fu := by decide
    have hs0 := hs
    obtain ⟨s1, s2, s3, s4, ⟨s5, s6⟩, s7, s8, s9⟩ := hs
    have n1 := yk_nn0 w
    have n2 := yk_no0 w
    have hk := yk_v_le s1
    obtain ⟨me, m0⟩ := s2.1
    show zh_ok (zf_M_readsCondition_l1_b len f num M W (zf_M_readsCondition_l1 len f num M W n) p o k m D) _
    unfold zf_M_readsCondition_l1_b
    rw [ze_here hT s5 (by omega), zl_b]
    by_cases h41 : yp_pk T len p = 41
    · have hp : p < len := yp_pk_lt (T := T) (by omega)
      rw [yp_C_f, if_neg h10, if_pos h41] at h
      rw [if_pos h41]
      unfold zf_M_lands
      obtain ⟨t, et, t1, t2, t3⟩ := yk_lands (Or.inr ⟨rfl, rfl⟩) w c k m D zi_fu s1 (by omega) s2 s3 (by omega) (by omega)
      rw [et, zl_b, zl_b]
      have hbt := yk_bt_la (all := true) w c s9
      obtain ⟨l1, l2, l3, l4⟩ := yp_la_1 (all := true) w c
      have ln : yp_hd (yp_la true w c).1 ≠ 11 ∧ yp_hd (yp_la true w c).1 ≠ 12 := by
        clear h hs0 s1 s2 s3 s4 s8 s9 hk n1 n2 h10 et t1 t2 t3 hbt l1 l2 l3 l4 me m0
        revert c
        induction w with
        | nil => intro c; exact ⟨(show (0 : Int) ≠ 11 by decide), (show (0 : Int) ≠ 12 by decide)⟩
        | cons s w ihw =>
          intro c
          rw [yp_la_c]
          split
          · exact ihw _
          · rename_i q
            exact ⟨fun e => q (Or.inl e), fun e => q (Or.inr ⟨rfl, e⟩)⟩
      generalize yp_la true w c = z at h t1 t2 t3 hbt l1 l2 l3 l4 ln
      obtain ⟨zw, zc⟩ := z
      cases zw with
      | nil => exact hbt.elim
      | cons s w2 =>
        have hk2 := yk_v_le t1
        have hk2 : t.1 = ((w2.length + 1 : Nat) : Int) := hk2
        have l4 : w2.length + 1 ≤ w.length := l4
        have l1 : zc.1 = c.1 := l1
        have l2 : (if s.1 = 10 then 1 else 0) + yk_nn w2 = yk_nn w := l2
        have l3 : (if s.1 = 10 ∨ s.1 = 13 then 1 else 0) + yk_no w2 = yk_no w := l3
        have ln : s.1 ≠ 11 ∧ s.1 ≠ 12 := ln
        have t1' : W (t.1 - 1) = 1048576 * s.1 + s.2 ∧ (10 ≤ s.1 ∧ s.1 ≤ 13) ∧ (0 ≤ s.2 ∧ s.2 < 200) ∧ yk_v w2 W (t.1 - 1) := t1
        obtain ⟨t11, t12, t13, t14⟩ := t1'
        rw [if_pos (by omega)] at l3
        have n3 := yk_no0 w2
        have n4 := yk_nn0 w2
        have l5 : yk_nn w2 ≤ yk_nn w := by
          rw [← l2]
          split <;> omega
        rw [zi_w_id (x := t.1 - 1) (by omega) (by omega), zi_w_id (x := p + 1) (by omega) (by omega), zi_w_id (x := o - 1) (by omega) (by omega)]
        by_cases hw2 : w2 = []
        · have h : some (.inr (p + 1, zc)) = some r := by
            have h : (if w2 = [] then some (.inr (p + 1, zc)) else yp_C T len N false w2 (o - 1) (p + 1) zc) = some r := h
            rwa [if_pos hw2] at h
          cases h
          subst hw2
          have hk2 : t.1 = ((0 + 1 : Nat) : Int) := hk2
          rw [if_pos (by omega)]
          refine zh_ret ⟨rfl, zc, rfl, t2, ⟨?_, ?_⟩, ?_⟩
          · show 0 ≤ p + 1; omega
          · show p + 1 ≤ len; omega
          · show zc.1 ≤ p + 1; omega
        · have h : yp_C T len N false w2 (o - 1) (p + 1) zc = some r := by
            have h : (if w2 = [] then some (.inr (p + 1, zc)) else yp_C T len N false w2 (o - 1) (p + 1) zc) = some r := h
            rwa [if_neg hw2] at h
          have hl2 : w2.length ≠ 0 := fun e => hw2 (List.length_eq_zero_iff.mp e)
          rw [if_neg (by omega)]
          unfold zf_M_endsPiece
          obtain ⟨y, ey, N', w', c', a1, a2, a3, a4, a5⟩ := yk_ends (T := T) (p := p + 1) (r := r) hl N w2 (o - 1) zc (t.1 - 1) m t.2 zi_fu h ⟨t14, t2, fun x hx hh => t3 x (List.mem_cons_of_mem _ hx) hh, by omega, ⟨by omega, by omega⟩, by omega, by omega, by
            rcases hbt with ⟨q, _⟩ | q
            · exact absurd q hw2
            · exact q⟩ (by omega)
          rw [ey, zl_b, zl_b]
          refine zh_mono (ih N' (by omega) (by omega) w' y.2.2.1 (p + 1) c' y.1 y.2.1 y.2.2.2 r n a2 a3 a4 (by omega) (by omega)) fun t ht => ?_
          cases t with
          | inl e =>
            obtain ⟨N2, w3, c3, b1, b2⟩ := ht
            exact ⟨N2, w3, c3, by omega, b2⟩
          | inr e => exact ht
    · rw [if_neg h41]
      exact zh_ret ⟨N + 1, w, c, Nat.le_refl _, h, h10, h41, o6, hs0⟩
end ZKD2
end
section
/-! The reference's reader of conditions, third part. -/
section ZKD3
variable {T M : Int → Int} {len : Int}
theorem ze_jumps {x k m p : Int} {W D : Int → Int} (k1 : 0 ≤ k) (k2 : k < 220) (m1 : 0 ≤ m) (m2 : m < 220) (p1 : 0 ≤ p) (p2 : p ≤ 220) (x1 : 0 ≤ x) (x2 : x ≤ 14) : zf_M_jumps x k m p W D = some (k + 1, m + 1, p + 1, zv_up W k (1048576 * x + m), zv_up D m (1048576 * x + 0)) := by
  unfold zf_M_jumps
  rw [zl_ci k1 (by omega), ze_notes m1 m2 x1 x2 (by decide) (by decide), zl_b, zi_w_id (x := k + 1) (by omega) (by omega), zi_w_id (x := p + 1) (by omega) (by omega), zi_w_id (x := 1048576 * x) (by omega) (by omega), zi_w_id (x := 1048576 * x + m) (by omega) (by omega)]
theorem ys_cond_l (hT : yk_T T M) (hl : len ≤ 200) : ∀ (B N : Nat), N ≤ B → B < 2000 → ∀ (w : zWT) (o p : Int) (c : zCD) (k f m num : Int) (W D : Int → Int) (r : Int ⊕ (Int × zCD)) (n : Nat), yp_C T len N true w o p c = some r → yk_cst len w c k p o m W D → o ≤ 6 → N < n →
    zh_ok (zf_M_readsCondition_l0 len M n p o k f m num W D) (fun t => Sum.elim (fun e => r = .inl (-1000 - e.1) ∧ 0 ≤ e.1 ∧ e.1 ≤ len) (fun t => (t.1 = 0 ∧ r = .inl t.2.2.2.2.1) ∨ (t.1 = 1 ∧ ∃ c', r = .inr (t.2.1, c') ∧ yk_c c' t.2.2.2.2.2.1 t.2.2.2.2.2.2.2.2 ∧ (0 ≤ t.2.1 ∧ t.2.1 ≤ len) ∧ c'.1 ≤ t.2.1)) t) := by
  intro B
  induction B with
  | zero =>
    intro N hN _ w o p c k f m num W D r n h
    obtain rfl : N = 0 := by omega
    exact zl_ns h
  | succ B ih =>
    intro N hN hB w o p c k f m num W D r n h hs o6 hn
    obtain ⟨N, rfl⟩ : ∃ q, N = q + 1 := by
      cases N with
      | zero => exact zl_ns h
      | succ q => exact ⟨q, rfl⟩
    obtain ⟨n, rfl⟩ : ∃ q, n = q + 1 := ⟨n - 1, by omega⟩
    have fu : 1000000 < zi_fu := by decide
    have hs0 := hs
    obtain ⟨s1, s2, s3, s4, ⟨s5, s6⟩, s7, s8, s9⟩ := hs
    have n1 := yk_nn0 w
    have n2 := yk_no0 w
    have hk := yk_v_le s1
    obtain ⟨me, m0⟩ := s2.1
    have opn : ∀ x, (x = 10 ∨ x = 13) → yp_pk T len p ≠ -1 → (if o = 6 then some (.inl (-5000 - p)) else yp_C T len N true ((x, 0) :: w) (o + 1) (p + 1) c) = some r →
        zh_ok ((zf_M_opens x o k p f W).bind fun r11 => (if r11.1 = 0 then (some (.inr (0, r11.2.2.2.1, r11.2.1, r11.2.2.1, r11.2.2.2.2.1, m, num, r11.2.2.2.2.2, D))) else (zf_M_readsCondition_l0 len M n r11.2.2.2.1 r11.2.1 r11.2.2.1 r11.2.2.2.2.1 m num r11.2.2.2.2.2 D)))
        (fun t => Sum.elim (fun e => r = .inl (-1000 - e.1) ∧ 0 ≤ e.1 ∧ e.1 ≤ len) (fun t => (t.1 = 0 ∧ r = .inl t.2.2.2.2.1) ∨ (t.1 = 1 ∧ ∃ c', r = .inr (t.2.1, c') ∧ yk_c c' t.2.2.2.2.2.1 t.2.2.2.2.2.2.2.2 ∧ (0 ≤ t.2.1 ∧ t.2.1 ≤ len) ∧ c'.1 ≤ t.2.1)) t) := by
      intro x hx hp h
      have hp := yp_pk_lt hp
      by_cases ho : o = 6
      · rw [if_pos ho] at h
        cases h
        rw [ze_opens6 ho s5 (by omega), zl_b]
        show zh_ok (if (0 : Int) = 0 then _ else _) _
        rw [if_pos rfl]
        exact zh_ret (Or.inl ⟨rfl, rfl⟩)
      · rw [if_neg ho] at h
        rw [ze_opens ho (by omega) (by omega) s5 (by omega) (by omega) (by omega) (by omega) (by omega), zl_b]
        show zh_ok (if (1 : Int) = 0 then _ else _) _
        rw [if_neg (by decide)]
        refine ih N (by omega) (by omega) ((x, 0) :: w) (o + 1) (p + 1) c (k + 1) f m num (zv_up W k (1048576 * x)) D r n h ⟨⟨?_, ?_, ⟨(show (0 : Int) ≤ 0 by decide), (show (0 : Int) < 200 by decide)⟩, ?_⟩, s2, fun y hy hh => ?_, ?_, ⟨by omega, by omega⟩, by omega, ?_, Or.inr s9⟩ (by omega) (by omega)
        · rw [show k + 1 - 1 = k by omega, zv_up_s]
          show 1048576 * x = 1048576 * x + 0; omega
        · show 10 ≤ x ∧ x ≤ 13; omega
        · rw [show k + 1 - 1 = k by omega]
          exact yk_v_up s1 fun j hj => zv_up_n (by omega)
        · rcases List.mem_cons.mp hy with e | e
          · rw [e] at hh
            have hh : x = 11 ∨ x = 12 := hh
            omega
          · exact s3 y e hh
        · show o + 1 = (if x = 10 ∨ x = 13 then 1 else 0) + yk_no w
          rw [if_pos hx]; omega
        · show c.1 + ((if x = 10 then 1 else 0) + yk_nn w) ≤ p + 1
          split <;> omega
    show zh_ok (zf_M_readsCondition_l0_b len M (zf_M_readsCondition_l0 len M n) p o k f m num W D) _
    unfold zf_M_readsCondition_l0_b
    have hh := ze_here hT s5 (show len ≤ 220 by omega)
    rw [hh, zl_b]
    by_cases h33 : yp_pk T len p = 33
    · rw [if_pos h33, zl_b, if_pos h33]
      rw [yp_C_t, if_pos h33] at h
      exact opn 10 (Or.inl rfl) (by omega) h
    rw [if_neg h33, zl_b]
    by_cases h40 : yp_pk T len p = 40
    · rw [if_pos h40, zl_b, if_neg h33]
      rw [yp_C_t, if_neg h33, if_pos h40] at h
      exact opn 13 (Or.inr rfl) (by omega) h
    rw [if_neg h40]
    refine zh_bind (ys_comp hT hl h h33 h40 hs0 o6 (by omega)) fun t ht => ?_
    rcases ht with ⟨t1, t2⟩ | ⟨t1, N', w', c', a1, a2, a3, a4, a5⟩
    · rw [if_pos t1]
      exact zh_ret (Or.inl ⟨rfl, t2⟩)
    · rw [if_neg (by omega)]
      refine zh_bind (ys_close hT hl B N' (by omega) (by omega) w' _ _ c' _ _ _ r zi_fu a2 a3 a5 a4 (by omega)) fun u hu => ?_
      cases u with
      | inr e =>
        obtain ⟨b1, b2⟩ := hu
        exact zh_ret (Or.inr ⟨b1, b2⟩)
      | inl e =>
        obtain ⟨N2, w2, c2, b1, b2, b3, b4, b5, b6⟩ := hu
        obtain ⟨s1, s2, s3, s4, ⟨s5, s6⟩, s7, s8, s9⟩ := b6
        have n1 := yk_nn0 w2
        have n2 := yk_no0 w2
        have hk := yk_v_le s1
        obtain ⟨me, m0⟩ := s2.1
        obtain ⟨N2, rfl⟩ : ∃ q, N2 = q + 1 := by
          cases N2 with
          | zero => exact zl_ns b2
          | succ q => exact ⟨q, rfl⟩
        rw [yp_C_f, if_neg b3, if_neg b4] at b2
        have hh := ze_here hT s5 (show len ≤ 220 by omega)
        show zh_ok ((zf_M_here e.1 len M).bind _) _
        have go : ∀ all a x kk, ((a = 0 ∧ all = false) ∨ (a = 1 ∧ all = true)) → (x = 11 ∧ yp_pk T len e.1 = 38 ∨ x = 12 ∧ yp_pk T len e.1 ≠ 38) → x = zd_op kk → (kk = 3 ∨ kk = 4) → yp_pk T len e.1 ≠ -1 → yp_C T len N2 true ((x, (yp_la all w2 c2).2.1) :: (yp_la all w2 c2).1) e.2.1 (e.1 + 1) (yp_em kk 0 (yp_la all w2 c2).2) = some r →
            zh_ok ((zf_M_lands a e.2.2.1 e.2.2.2.1 t.2.2.2.2.2.2.2.1 e.2.2.2.2).bind fun r28 => ((some (yp_pk T len e.1)).bind fun r29 => (if r29 = 38 then ((zf_M_jumps 11 r28.1 e.2.2.2.1 e.1 t.2.2.2.2.2.2.2.1 r28.2).bind fun r32 => (zf_M_readsCondition_l0 len M n r32.2.2.1 e.2.1 r32.1 t.2.2.2.2.1 r32.2.1 t.2.2.2.2.2.2.1 r32.2.2.2.1 r32.2.2.2.2)) else ((zf_M_jumps 12 r28.1 e.2.2.2.1 e.1 t.2.2.2.2.2.2.2.1 r28.2).bind fun r31 => (zf_M_readsCondition_l0 len M n r31.2.2.1 e.2.1 r31.1 t.2.2.2.2.1 r31.2.1 t.2.2.2.2.2.2.1 r31.2.2.2.1 r31.2.2.2.2)))))
            (fun t => Sum.elim (fun e => r = .inl (-1000 - e.1) ∧ 0 ≤ e.1 ∧ e.1 ≤ len) (fun t => (t.1 = 0 ∧ r = .inl t.2.2.2.2.1) ∨ (t.1 = 1 ∧ ∃ c', r = .inr (t.2.1, c') ∧ yk_c c' t.2.2.2.2.2.1 t.2.2.2.2.2.2.2.2 ∧ (0 ≤ t.2.1 ∧ t.2.1 ≤ len) ∧ c'.1 ≤ t.2.1)) t) := by
          intro all a x kk ha hx hxk hkk hp h
          have hp := yp_pk_lt hp
          unfold zf_M_lands
          obtain ⟨z, ez, z1, z2, z3⟩ := yk_lands ha w2 c2 e.2.2.1 e.2.2.2.1 e.2.2.2.2 zi_fu s1 (by omega) s2 s3 (by omega) (by omega)
          obtain ⟨l1, l2, l3, l4⟩ := yp_la_1 (all := all) w2 c2
          have hz := yk_v_le z1
          have hbt := yk_bt_la (all := all) w2 c2 s9
          rw [ez, zl_b, zl_b, zl_b]
          have ej : ∀ y, (y = 11 ∨ y = 12) → zf_M_jumps y z.1 e.2.2.2.1 e.1 t.2.2.2.2.2.2.2.1 z.2 = some (z.1 + 1, e.2.2.2.1 + 1, e.1 + 1, zv_up t.2.2.2.2.2.2.2.1 z.1 (1048576 * y + e.2.2.2.1), zv_up z.2 e.2.2.2.1 (1048576 * y + 0)) := fun y hy => ze_jumps (by omega) (by omega) (by omega) (by omega) s5 (by omega) (by omega) (by omega)
          rw [ej 11 (Or.inl rfl), ej 12 (Or.inr rfl), zl_b, zl_b]
          have hx2 : x = 11 ∨ x = 12 := by omega
          have hc2 := yk_c_em (kk := kk) (v := 0) z2 (by omega) (by omega) (by decide) (by decide)
          rw [← hxk] at hc2
          have gox : zh_ok (zf_M_readsCondition_l0 len M n (e.1 + 1) e.2.1 (z.1 + 1) t.2.2.2.2.1 (e.2.2.2.1 + 1) t.2.2.2.2.2.2.1 (zv_up t.2.2.2.2.2.2.2.1 z.1 (1048576 * x + e.2.2.2.1)) (zv_up z.2 e.2.2.2.1 (1048576 * x + 0))) (fun t => Sum.elim (fun e => r = .inl (-1000 - e.1) ∧ 0 ≤ e.1 ∧ e.1 ≤ len) (fun t => (t.1 = 0 ∧ r = .inl t.2.2.2.2.1) ∨ (t.1 = 1 ∧ ∃ c', r = .inr (t.2.1, c') ∧ yk_c c' t.2.2.2.2.2.1 t.2.2.2.2.2.2.2.2 ∧ (0 ≤ t.2.1 ∧ t.2.1 ≤ len) ∧ c'.1 ≤ t.2.1)) t) := by
           refine ih N2 (by omega) (by omega) _ e.2.1 (e.1 + 1) _ (z.1 + 1) t.2.2.2.2.1 (e.2.2.2.1 + 1) t.2.2.2.2.2.2.1 (zv_up t.2.2.2.2.2.2.2.1 z.1 (1048576 * x + e.2.2.2.1)) (zv_up z.2 e.2.2.2.1 (1048576 * x + 0)) r n h ⟨⟨?_, ?_, ⟨?_, ?_⟩, ?_⟩, hc2, fun y hy hh => ?_, ?_, ⟨by omega, by omega⟩, by omega, ?_, Or.inr hbt⟩ b5 (by omega)
           · rw [show z.1 + 1 - 1 = z.1 by omega, zv_up_s]
             show _ = 1048576 * x + (yp_la all w2 c2).2.1
             rw [l1]; omega
           · show 10 ≤ x ∧ x ≤ 13; omega
           · show 0 ≤ (yp_la all w2 c2).2.1; omega
           · show (yp_la all w2 c2).2.1 < 200; omega
           · rw [show z.1 + 1 - 1 = z.1 by omega]
             exact yk_v_up z1 fun j hj => zv_up_n (by omega)
           · rcases List.mem_cons.mp hy with q | q
             · rw [q]
               show (yp_la all w2 c2).2.1 < (yp_la all w2 c2).2.1 + 1; omega
             · have := z3 y q hh
               show y.2 < (yp_la all w2 c2).2.1 + 1; omega
           · show e.2.1 = (if x = 10 ∨ x = 13 then 1 else 0) + yk_no (yp_la all w2 c2).1
             rw [if_neg (by omega), l3]; omega
           · show (yp_la all w2 c2).2.1 + 1 + ((if x = 10 then 1 else 0) + yk_nn (yp_la all w2 c2).1) ≤ e.1 + 1
             rw [if_neg (by omega), l2, l1]; omega
          rcases hx with ⟨e1, e2⟩ | ⟨e1, e2⟩
          · rw [if_pos e2]
            rw [e1] at gox
            exact gox
          · rw [if_neg e2]
            rw [e1] at gox
            exact gox
        rw [hh, zl_b]
        by_cases h38 : yp_pk T len e.1 = 38
        · rw [if_pos h38] at b2
          rw [if_pos h38, zl_b, if_neg (by omega)]
          exact go false 0 11 4 (Or.inl ⟨rfl, rfl⟩) (Or.inl ⟨rfl, h38⟩) rfl (Or.inr rfl) (by omega) b2
        rw [if_neg h38] at b2
        rw [if_neg h38, zl_b]
        by_cases h124 : yp_pk T len e.1 = 124
        · rw [if_pos h124] at b2
          rw [if_pos h124, zl_b, if_pos h124]
          exact go true 1 12 3 (Or.inr ⟨rfl, rfl⟩) (Or.inr ⟨rfl, h38⟩) rfl (Or.inl rfl) (by omega) b2
        rw [if_neg h124] at b2
        rw [if_neg h124]
        cases b2
        exact zh_ret ⟨rfl, s5, s6⟩
/-- the whole C, its ( and ) as well -/
theorem ys_cond (hT : yk_T T M) (hl : len ≤ 200) {N : Nat} {p : Int} {c : zCD} {f m num : Int} {o k : Int} {W D : Int → Int} {r : Int ⊕ (Int × zCD)} (h40 : yp_pk T len p = 40) (h : yp_C T len N true [(13, 0)] 1 (p + 1) c = some r) (hN : N < 2000) (hc : yk_c c m D) (p1 : 0 ≤ p) (cp : c.1 ≤ p) :
    zh_ok (zf_M_readsCondition p len o k f m num M W D) (fun t => (t.1 = 0 ∧ r = .inl t.2.2.2.2.1) ∨ (t.1 = 1 ∧ ∃ c', r = .inr (t.2.1, c') ∧ yk_c c' t.2.2.2.2.2.1 t.2.2.2.2.2.2.2.2 ∧ (0 ≤ t.2.1 ∧ t.2.1 ≤ len) ∧ c'.1 ≤ t.2.1)) := by
  have fu : 1000000 < zi_fu := by decide
  have hp : p < len := yp_pk_lt (T := T) (by omega)
  unfold zf_M_readsCondition
  rw [ze_here hT p1 (by omega), zl_b, if_pos h40, ze_opens (by decide) (by decide) (by decide) p1 (by omega) (by decide) (by decide) (by decide) (by decide), zl_b]
  show zh_ok (if (1 : Int) = 0 then _ else _) _
  rw [if_neg (by decide)]
  refine zh_bind (ys_cond_l hT hl 1999 N (by omega) (by decide) [(13, 0)] 1 (p + 1) c 1 f m num (zv_up W 0 (1048576 * 13)) D r zi_fu h ⟨⟨?_, ⟨by decide, by decide⟩, ⟨by decide, by decide⟩, rfl⟩, hc, fun y hy hh => ?_, rfl, ⟨by omega, by omega⟩, by omega, ?_, Or.inl ⟨rfl, rfl⟩⟩ (by decide) (by omega)) fun t ht => ?_
  · exact zv_up_s
  · rcases List.mem_cons.mp hy with e | e
    · subst e
      have hh : (13 : Int) = 11 ∨ (13 : Int) = 12 := hh
      omega
    · cases e
  · show c.1 + ((if (13 : Int) = 10 then 1 else 0) + 0) ≤ p + 1
    rw [if_neg (by decide)]; omega
  · cases t with
    | inr e => exact zh_ret ht
    | inl e =>
      obtain ⟨a1, a2, a3⟩ := ht
      simp only [Sum.elim_inl]
      rw [ze_wrong a2 (by omega) (by decide) (by decide), zl_b]
      exact zh_ret (Or.inl ⟨rfl, a1⟩)
theorem ys_condN (hT : yk_T T M) (hl : len ≤ 200) {p : Int} {f m num : Int} {o k : Int} {W D : Int → Int} (h40 : yp_pk T len p ≠ 40) (p1 : 0 ≤ p) (p2 : p ≤ len) : zf_M_readsCondition p len o k f m num M W D = some (0, p, o, k, -1000 - p, m, num, W, D) := by
  unfold zf_M_readsCondition
  rw [ze_here hT p1 (by omega), zl_b, if_neg h40, ze_wrong p1 (by omega) (by decide) (by decide), zl_b]
  rfl
end ZKD3
end
section
/-! A law as it is read: its clauses on both sides. -/
def yl_kind (k : Int) : Prop := k = 118 ∨ k = 106 ∨ k = 119 ∨ k = 103 ∨ k = 113
def yl_am (k : Int) : Prop := k = 119 ∨ k = 103 ∨ k = 113
/-- how many clauses, their kinds, what their C's and their E's come to -/
abbrev zLW : Type := Int × (Int → Int) × (Int → (Int → Int) → Option Int) × (Int → (Int → Int) → Option Int)
def yl_cl (K V : Int → Int) (st : Int) (L : zLW) (fr hf to : Int → Int) : Prop := ∀ q, 0 ≤ q → q < L.1 → yl_kind (L.2.1 q) ∧ (0 ≤ fr q ∧ fr q ≤ hf q ∧ hf q < to q ∧ to q ≤ st) ∧ zd_seg true K V (hf q) (to q) 16 (L.2.2.1 q) ∧ (yl_am (L.2.1 q) → zd_seg false K V (fr q) (hf q) 16 (L.2.2.2 q))
def yl_tell (L : zLW) (k t : Int) : Prop := (t = 1 ∧ ∃ q, 0 ≤ q ∧ q < L.1 ∧ L.2.1 q = k) ∨ (t = 0 ∧ ∀ q, 0 ≤ q → q < L.1 → L.2.1 q ≠ k)
def yl_byp (K V : Int → Int) (L : zLW) (hf to : Int → Int) (k s x : Int) : Prop := s = 0 → ∀ q, 0 ≤ q → q < L.1 → L.2.1 q = k → ∀ j, hf q ≤ j → j < to q → K j = 1 → V j ≠ x
def yl_fl (K V : Int → Int) (L : zLW) (hf to : Int → Int) (tS tL sP lP : Int) : Prop :=
  (yl_tell L 118 tS ∧ yl_tell L 106 tL) ∧ (yl_byp K V L hf to 118 sP 10 ∧ yl_byp K V L hf to 118 sP 11 ∧ yl_byp K V L hf to 118 sP 12) ∧ yl_byp K V L hf to 106 lP 10 ∧ yl_byp K V L hf to 106 lP 11
/-- one clause more -/
def yl_add (L : zLW) (k : Int) (ρC ρE : (Int → Int) → Option Int) : zLW := (L.1 + 1, zv_up L.2.1 L.1 k, (fun q => if q = L.1 then ρC else L.2.2.1 q), (fun q => if q = L.1 then ρE else L.2.2.2 q))
theorem yl_cl_add {K V K2 V2 : Int → Int} {st st2 k f h : Int} {L : zLW} {fr hf to : Int → Int} {ρC ρE : (Int → Int) → Option Int} (hc : yl_cl K V st L fr hf to) (hK : ∀ j, j < st → K2 j = K j ∧ V2 j = V j) (hk : yl_kind k) (h1 : st ≤ f) (h2 : f ≤ h) (h3 : h < st2) (h0 : 0 ≤ f) (hC : zd_seg true K2 V2 h st2 16 ρC) (hE : yl_am k → zd_seg false K2 V2 f h 16 ρE) : yl_cl K2 V2 st2 (yl_add L k ρC ρE) (zv_up fr L.1 f) (zv_up hf L.1 h) (zv_up to L.1 st2) := by
  intro q q1 q2
  have q2 : q < L.1 + 1 := q2
  show yl_kind (zv_up L.2.1 L.1 k q) ∧ (0 ≤ zv_up fr L.1 f q ∧ zv_up fr L.1 f q ≤ zv_up hf L.1 h q ∧ zv_up hf L.1 h q < zv_up to L.1 st2 q ∧ zv_up to L.1 st2 q ≤ st2) ∧ zd_seg true K2 V2 (zv_up hf L.1 h q) (zv_up to L.1 st2 q) 16 (if q = L.1 then ρC else L.2.2.1 q) ∧ (yl_am (zv_up L.2.1 L.1 k q) → zd_seg false K2 V2 (zv_up fr L.1 f q) (zv_up hf L.1 h q) 16 (if q = L.1 then ρE else L.2.2.2 q))
  by_cases e : q = L.1
  · subst e
    rw [zv_up_s, zv_up_s, zv_up_s, zv_up_s, if_pos rfl, if_pos rfl]
    exact ⟨hk, ⟨h0, h2, h3, Int.le_refl _⟩, hC, hE⟩
  · rw [zv_up_n e, zv_up_n e, zv_up_n e, zv_up_n e, if_neg e, if_neg e]
    obtain ⟨a1, ⟨a2, a3, a4, a5⟩, a6, a7⟩ := hc q q1 (by omega)
    exact ⟨a1, ⟨a2, a3, a4, by omega⟩, zd_seg_fr a6 fun j _ j2 => hK j (by omega), fun h => zd_seg_fr (a7 h) fun j _ j2 => hK j (by omega)⟩
theorem yl_tell_add {L : zLW} {k k2 t : Int} {ρC ρE : (Int → Int) → Option Int} (h0 : 0 ≤ L.1) (h : yl_tell L k t) : yl_tell (yl_add L k2 ρC ρE) k (if k2 = k then 1 else t) := by
  by_cases e : k2 = k
  · rw [if_pos e]
    exact Or.inl ⟨rfl, L.1, h0, by show L.1 < L.1 + 1; omega, by show zv_up L.2.1 L.1 k2 L.1 = k; rw [zv_up_s]; exact e⟩
  · rw [if_neg e]
    rcases h with ⟨a, q, q1, q2, q3⟩ | ⟨a, b⟩
    · exact Or.inl ⟨a, q, q1, by show q < L.1 + 1; omega, by show zv_up L.2.1 L.1 k2 q = k; rw [zv_up_n (by omega)]; exact q3⟩
    · refine Or.inr ⟨a, fun q q1 q2 => ?_⟩
      have q2 : q < L.1 + 1 := q2
      show zv_up L.2.1 L.1 k2 q ≠ k
      by_cases eq : q = L.1
      · rw [eq, zv_up_s]; exact e
      · rw [zv_up_n eq]; exact b q q1 (by omega)
theorem yl_byp_add {K V K2 V2 : Int → Int} {L : zLW} {hf to : Int → Int} {k k2 s s2 x h st st2 : Int} {ρC ρE : (Int → Int) → Option Int} (hb : yl_byp K V L hf to k s x) (hs : s2 = 0 → s = 0 ∧ (k2 = k → ∀ j, h ≤ j → j < st2 → K2 j = 1 → V2 j ≠ x)) (hK : ∀ j, j < st → K2 j = K j ∧ V2 j = V j) (hto : ∀ q, 0 ≤ q → q < L.1 → to q ≤ st) : yl_byp K2 V2 (yl_add L k2 ρC ρE) (zv_up hf L.1 h) (zv_up to L.1 st2) k s2 x := by
  intro e q q1 q2 q3 j j1 j2 j3
  have q2 : q < L.1 + 1 := q2
  have q3 : zv_up L.2.1 L.1 k2 q = k := q3
  obtain ⟨s0, sn⟩ := hs e
  by_cases eq : q = L.1
  · subst eq
    rw [zv_up_s] at q3 j1 j2
    exact sn q3 j j1 j2 j3
  · rw [zv_up_n eq] at q3 j1 j2
    have ht := hto q q1 (by omega)
    obtain ⟨u1, u2⟩ := hK j (by omega)
    rw [u2]
    exact hb s0 q q1 (by omega) q3 j j1 j2 (by rw [← u1]; exact j3)
/-! The class's side. -/
section ZLX
variable {K V T : Int → Int} {len : Int}
theorem ze_hasLetter_l0 {x st : Int} (hst : st ≤ 200) : ∀ (m : Nat) (j : Int) (n : Nat), st - j ≤ m → 0 ≤ j → m < n → (zf_Law_hasLetter_l0 x st K V n j = some (.inl ()) ∧ ∀ i, j ≤ i → i < st → K i = 1 → V i ≠ x) ∨ zf_Law_hasLetter_l0 x st K V n j = some (.inr 1) := by
  intro m
  induction m with
  | zero =>
    intro j n e j0 hn
    obtain ⟨n, rfl⟩ : ∃ q, n = q + 1 := ⟨n - 1, by omega⟩
    refine Or.inl ⟨?_, fun i a b => by omega⟩
    show zf_Law_hasLetter_l0_b x st K V (zf_Law_hasLetter_l0 x st K V n) j = _
    unfold zf_Law_hasLetter_l0_b
    rw [if_neg (by omega)]
  | succ m ih =>
    intro j n e j0 hn
    obtain ⟨n, rfl⟩ : ∃ q, n = q + 1 := ⟨n - 1, by omega⟩
    show (zf_Law_hasLetter_l0_b x st K V (zf_Law_hasLetter_l0 x st K V n) j = _ ∧ _) ∨ zf_Law_hasLetter_l0_b x st K V (zf_Law_hasLetter_l0 x st K V n) j = _
    unfold zf_Law_hasLetter_l0_b
    by_cases hj : j < st
    · rw [if_pos hj, zl_ci j0 (by omega), zi_w_id (x := j + 1) (by omega) (by omega)]
      have i2 := ih (j + 1) n (by omega) (by omega) (by omega)
      have ext : (K j = 1 → V j ≠ x) → (∀ i, j + 1 ≤ i → i < st → K i = 1 → V i ≠ x) → ∀ i, j ≤ i → i < st → K i = 1 → V i ≠ x := fun a b i i1 i2 i3 => by
        by_cases e : i = j
        · subst e; exact a i3
        · exact b i (by omega) i2 i3
      by_cases h1 : K j = 1
      · rw [if_pos h1]
        by_cases h2 : V j = x
        · rw [if_pos h2]; exact Or.inr rfl
        · rw [if_neg h2]
          rcases i2 with ⟨a, b⟩ | a
          · exact Or.inl ⟨a, ext (fun _ => h2) b⟩
          · exact Or.inr a
      · rw [if_neg h1]
        rcases i2 with ⟨a, b⟩ | a
        · exact Or.inl ⟨a, ext (fun h => absurd h h1) b⟩
        · exact Or.inr a
    · rw [if_neg hj]
      exact Or.inl ⟨rfl, fun i a b => by omega⟩
theorem ze_hasLetter {x st j : Int} (hst : st ≤ 200) (j0 : 0 ≤ j) : (zf_Law_hasLetter j x st K V = some 0 ∧ ∀ i, j ≤ i → i < st → K i = 1 → V i ≠ x) ∨ zf_Law_hasLetter j x st K V = some 1 := by
  unfold zf_Law_hasLetter
  rcases ze_hasLetter_l0 (K := K) (V := V) (x := x) hst (st - j).toNat j zi_fu (by omega) j0 (by have : 1000 < zi_fu := (by decide); omega) with ⟨a, b⟩ | a
  · rw [a]; exact Or.inl ⟨rfl, b⟩
  · rw [a]; exact Or.inr rfl
/-- what a clause leaves of the four marks -/
def yl_mk (K V : Int → Int) (k h st tL lP tS sP tL' lP' tS' sP' : Int) : Prop :=
  (tS' = (if k = 118 then 1 else tS) ∧ tL' = if k = 106 then 1 else tL) ∧ (sP' = 0 → sP = 0 ∧ (k = 118 → ∀ j, h ≤ j → j < st → K j = 1 → V j ≠ 10 ∧ V j ≠ 11 ∧ V j ≠ 12)) ∧ (lP' = 0 → lP = 0 ∧ (k = 106 → ∀ j, h ≤ j → j < st → K j = 1 → V j ≠ 10 ∧ V j ≠ 11))
theorem ze_addClause {k f h nc st tL lP tS sP : Int} {g0 g1 g2 g3 : Int → Int} (n1 : 0 ≤ nc) (n2 : nc < 14) (h0 : 0 ≤ h) (hst : st ≤ 200) : ∃ tL' lP' tS' sP', zf_Law_addClause k f h nc st tL lP tS sP g0 g1 g2 g3 K V = some (nc + 1, tL', lP', tS', sP', zv_up g0 nc k, zv_up g1 nc f, zv_up g2 nc h, zv_up g3 nc st) ∧ yl_mk K V k h st tL lP tS sP tL' lP' tS' sP' := by
  have a10 := ze_hasLetter (K := K) (V := V) (x := 10) (st := st) (j := h) hst h0
  have a11 := ze_hasLetter (K := K) (V := V) (x := 11) (st := st) (j := h) hst h0
  have a12 := ze_hasLetter (K := K) (V := V) (x := 12) (st := st) (j := h) hst h0
  unfold zf_Law_addClause yl_mk
  rw [if_pos n2, zl_ci n1 (by omega), zi_w_id (x := nc + 1) (by omega) (by omega)]
  by_cases h118 : k = 118
  · subst h118
    rw [if_pos rfl]
    have no : ¬ (118 : Int) = 106 := by decide
    by_cases hs : sP = 0
    · rw [if_pos hs]
      rcases a10 with ⟨e10, b10⟩ | e10
      · rw [e10, zl_b, if_pos rfl]
        rcases a11 with ⟨e11, b11⟩ | e11
        · rw [e11, zl_b, if_pos rfl]
          rcases a12 with ⟨e12, b12⟩ | e12
          · rw [e12, zl_b, if_pos rfl]
            exact ⟨tL, lP, 1, 0, rfl, ⟨by rw [if_pos rfl], by rw [if_neg no]⟩, fun _ => ⟨hs, fun _ j j1 j2 j3 => ⟨b10 j j1 j2 j3, b11 j j1 j2 j3, b12 j j1 j2 j3⟩⟩, fun e => ⟨e, fun h => absurd h no⟩⟩
          · rw [e12, zl_b, if_neg (by decide)]
            exact ⟨tL, lP, 1, 1, rfl, ⟨by rw [if_pos rfl], by rw [if_neg no]⟩, fun e => absurd e (by decide), fun e => ⟨e, fun h => absurd h no⟩⟩
        · rw [e11, zl_b, if_neg (by decide)]
          exact ⟨tL, lP, 1, 1, rfl, ⟨by rw [if_pos rfl], by rw [if_neg no]⟩, fun e => absurd e (by decide), fun e => ⟨e, fun h => absurd h no⟩⟩
      · rw [e10, zl_b, if_neg (by decide)]
        exact ⟨tL, lP, 1, 1, rfl, ⟨by rw [if_pos rfl], by rw [if_neg no]⟩, fun e => absurd e (by decide), fun e => ⟨e, fun h => absurd h no⟩⟩
    · rw [if_neg hs]
      exact ⟨tL, lP, 1, 1, rfl, ⟨by rw [if_pos rfl], by rw [if_neg no]⟩, fun e => absurd e (by decide), fun e => ⟨e, fun h => absurd h no⟩⟩
  · rw [if_neg h118]
    by_cases h106 : k = 106
    · subst h106
      rw [if_pos rfl]
      by_cases hs : lP = 0
      · rw [if_pos hs]
        rcases a10 with ⟨e10, b10⟩ | e10
        · rw [e10, zl_b, if_pos rfl]
          rcases a11 with ⟨e11, b11⟩ | e11
          · rw [e11, zl_b, if_pos rfl]
            exact ⟨1, 0, tS, sP, rfl, ⟨by rw [if_neg h118], by rw [if_pos rfl]⟩, fun e => ⟨e, fun h => absurd h h118⟩, fun _ => ⟨hs, fun _ j j1 j2 j3 => ⟨b10 j j1 j2 j3, b11 j j1 j2 j3⟩⟩⟩
          · rw [e11, zl_b, if_neg (by decide)]
            exact ⟨1, 1, tS, sP, rfl, ⟨by rw [if_neg h118], by rw [if_pos rfl]⟩, fun e => ⟨e, fun h => absurd h h118⟩, fun e => absurd e (by decide)⟩
        · rw [e10, zl_b, if_neg (by decide)]
          exact ⟨1, 1, tS, sP, rfl, ⟨by rw [if_neg h118], by rw [if_pos rfl]⟩, fun e => ⟨e, fun h => absurd h h118⟩, fun e => absurd e (by decide)⟩
      · rw [if_neg hs]
        exact ⟨1, 1, tS, sP, rfl, ⟨by rw [if_neg h118], by rw [if_pos rfl]⟩, fun e => ⟨e, fun h => absurd h h118⟩, fun e => absurd e (by decide)⟩
    · rw [if_neg h106]
      exact ⟨tL, lP, tS, sP, rfl, ⟨by rw [if_neg h118], by rw [if_neg h106]⟩, fun e => ⟨e, fun h => absurd h h118⟩, fun e => ⟨e, fun h => absurd h h106⟩⟩
theorem ze_addClause_a {k f h nc st tL lP tS sP : Int} {g0 g1 g2 g3 : Int → Int} (n1 : 0 ≤ nc) (n2 : nc ≤ 14) (h0 : 0 ≤ h) (hst : st ≤ 200) : ∃ o, zf_Law_addClause k f h nc st tL lP tS sP g0 g1 g2 g3 K V = some o := by
  by_cases hn : nc < 14
  · obtain ⟨_, _, _, _, e, _⟩ := ze_addClause (K := K) (V := V) (k := k) (f := f) (tL := tL) (lP := lP) (tS := tS) (sP := sP) (g0 := g0) (g1 := g1) (g2 := g2) (g3 := g3) n1 hn h0 hst
    exact ⟨_, e⟩
  · unfold zf_Law_addClause
    rw [if_neg hn]
    exact ⟨_, rfl⟩
/-! a fault is there already -/
theorem yr_partf {rc : zRC} {o f p c : Int} (hf : f ≠ 0) (hr : rc 2 o f p len c T K V = some (f, p, c, K, V)) : zm_LawReader_readPart rc o f p len c T K V = some (f, p, c, K, V) := by
  unfold zm_LawReader_readPart
  rw [hr, zl_b, show zi_fu = (zi_fu - 1) + 1 from by decide, yr_part_f hf, zl_b]
theorem yr_condf {rc : zRC} {o f p c : Int} (hf : f ≠ 0) (hr : rc 1 o f p len c T K V = some (f, p, c, K, V)) : zm_LawReader_readCondition rc o f p len c T K V = some (f, p, c, K, V) := by
  unfold zm_LawReader_readCondition
  rw [hr, zl_b, show zi_fu = (zi_fu - 1) + 1 from by decide, yr_cond_f hf, zl_b]
theorem yr_readCondf {f p c : Int} (hf : f ≠ 0) (p1 : 0 ≤ p) (hl : len ≤ 220) : zf_LawReader_readCondition 1 f p len c T K V = some (f, p, c, K, V) := by
  refine yr_condf (rc := zg_LawReader_readCondition 39) hf ?_
  refine yr_partf (rc := zg_LawReader_readCondition 38) hf ?_
  show zm_LawReader_readPiece (zg_LawReader_readCondition 37) 1 f p len c T K V = _
  unfold zm_LawReader_readPiece
  rw [ze_peek p1 hl, zl_b, if_neg hf]
end ZLX
end
section
/-! A clause, read by the class, and by the reference, as one text says. -/
def yp_CT (T : Int → Int) (len k p : Int) (c : zCD) : Option (Int ⊕ (Int × zCD × Int × Int)) := if yp_pk T len p = 40 then (yp_C T len 1000 true [(13, 0)] 1 (p + 1) c).bind fun r => Sum.elim (fun f => some (.inl f)) (fun q => some (.inr (q.1, q.2, k, c.1))) r else some (.inl (-1000 - p))
def yp_kd (k : Int) : Bool := decide (k = 118 ∨ k = 106 ∨ k = 119 ∨ k = 103 ∨ k = 113)
def yp_ka (k : Int) : Bool := decide (k = 119 ∨ k = 103 ∨ k = 113)
def yp_CL (T : Int → Int) (len nc p : Int) (c : zCD) : Option (Int ⊕ (Int × zCD × Int × Int)) :=
  if yp_kd (yp_pk T len p) = true then (if nc = 14 then some (.inl (-4000 - p)) else if yp_ka (yp_pk T len p) = true then (yp_S T len 1000 true [] 0 (p + 1) c).bind fun r => Sum.elim (fun f => some (.inl f)) (fun q => yp_CT T len (yp_pk T len p) q.1 q.2) r else yp_CT T len (yp_pk T len p) (p + 1) c)
  else some (.inl (-1000 - p))
abbrev zXO : Type := Int × Int × Int × Int × Int × Int × Int × Int × (Int → Int) × (Int → Int) × (Int → Int) × (Int → Int) × (Int → Int) × (Int → Int)
/-- what the class leaves of a clause that is read well -/
def yx_ok (p0 : Int) (c0 : zCD) (nc k f : Int) (ρE : Option ((Int → Int) → Option Int)) (tL lP tS sP : Int) (kd fr hf to : Int → Int) (len p h : Int) (c : zCD) (o : zXO) : Prop :=
  (o.2.1 = p ∧ p0 < p ∧ p ≤ len) ∧ o.2.2.1 = nc + 1 ∧ (o.2.2.2.1 = c.1 ∧ o.2.2.2.2.2.2.2.2.1 = c.2.1 ∧ o.2.2.2.2.2.2.2.2.2.1 = c.2.2) ∧ (c0.1 ≤ h ∧ h < c.1 ∧ c.1 - c0.1 ≤ p - p0 ∧ ∀ j, j < c0.1 → c.2.1 j = c0.2.1 j ∧ c.2.2 j = c0.2.2 j) ∧
  (o.2.2.2.2.2.2.2.2.2.2.1 = zv_up kd nc k ∧ o.2.2.2.2.2.2.2.2.2.2.2.1 = zv_up fr nc f ∧ o.2.2.2.2.2.2.2.2.2.2.2.2.1 = zv_up hf nc h ∧ o.2.2.2.2.2.2.2.2.2.2.2.2.2 = zv_up to nc c.1) ∧
  yl_mk c.2.1 c.2.2 k h c.1 tL lP tS sP o.2.2.2.2.1 o.2.2.2.2.2.1 o.2.2.2.2.2.2.1 o.2.2.2.2.2.2.2.1 ∧ (∃ ρC, zd_seg true c.2.1 c.2.2 h c.1 16 ρC) ∧ (match ρE with | none => True | some ρ => zd_seg false c.2.1 c.2.2 f h 16 ρ)
section YXC
variable {T : Int → Int} {len : Int}
theorem yx_tail (hl : len ≤ 200) (hT : ∀ j, 0 ≤ j → j < 220 → 0 ≤ T j ∧ T j ≤ 255) {p0 : Int} {c0 : zCD} {nc k f1 tL lP tS sP p f : Int} {kd fr hf to : Int → Int} {c : zCD} {ρE : Option ((Int → Int) → Option Int)} (n1 : 0 ≤ nc) (n2 : nc < 14) (hp : p0 ≤ p) (p0' : 0 ≤ p0) (p2 : p ≤ len) (c00 : 0 ≤ c0.1) (c2 : f = 0 → c0.1 ≤ c.1 ∧ c.1 - c0.1 ≤ p - p0 ∧ c.1 ≤ p ∧ f1 ≤ c.1) (c1 : 0 ≤ c.1 ∧ c.1 ≤ 200)
    (hk : f = 0 → ∀ j, j < c0.1 → c.2.1 j = c0.2.1 j ∧ c.2.2 j = c0.2.2 j) (hE : f = 0 → match ρE with | none => True | some ρ => zd_seg false c.2.1 c.2.2 f1 c.1 16 ρ) :
    zh_ok ((zf_LawReader_skip 40 f p len T).bind fun r8 => ((zf_LawReader_readCondition 1 r8.1 r8.2 len c.1 T c.2.1 c.2.2).bind fun r9 => ((zf_LawReader_skip 41 r9.1 r9.2.1 len T).bind fun r10 => ((zf_Law_addClause k f1 c.1 nc r9.2.2.1 tL lP tS sP kd fr hf to r9.2.2.2.1 r9.2.2.2.2).bind fun r11 => (some (r10.1, r10.2, r11.1, r9.2.2.1, r11.2.1, r11.2.2.1, r11.2.2.2.1, r11.2.2.2.2.1, r9.2.2.2.1, r9.2.2.2.2, r11.2.2.2.2.2.1, r11.2.2.2.2.2.2.1, r11.2.2.2.2.2.2.2.1, r11.2.2.2.2.2.2.2.2))))))
      (fun o : zXO => (o.1 ≠ 0 ∧ ((f = 0 ∧ yp_CT T len k p c = some (.inl o.1)) ∨ (f ≠ 0 ∧ o.1 = f))) ∨ (o.1 = 0 ∧ f = 0 ∧ ∃ p' c', yp_CT T len k p c = some (.inr (p', c', k, c.1)) ∧ yx_ok p0 c0 nc k f1 ρE tL lP tS sP kd fr hf to len p' c.1 c' o)) := by
  by_cases hf0 : f = 0
  · obtain ⟨d2, d3, d4, d5⟩ := c2 hf0
    have hk2 := hk hf0
    have hE2 := hE hf0
    clear c2 hk hE
    subst hf0
    rw [ze_skip (by omega) (by omega) (by omega), zl_b]
    by_cases h40 : yp_pk T len p = 40
    · have hpl : p < len := yp_pk_lt (T := T) (by omega)
      rw [if_pos h40]
      refine zh_bind (yr_readCondition hl hT (p + 1) c (by omega) (by omega) c1.1 (by omega)) fun r hr => ?_
      obtain ⟨⟨r1, r2⟩, ⟨r3, r4⟩, ro, rb⟩ := hr
      by_cases he : r.1 = 0
      · obtain ⟨b1, b2, b3, b4, ⟨ρ, b5⟩, b6, b7⟩ := ro he
        obtain ⟨kk, l, u⟩ := b7 [(13, 0)] rfl
        have b6 : yp_pk T len r.2.1 ≠ 38 ∧ yp_pk T len r.2.1 ≠ 124 := b6
        have hu := u (1000 - kk)
        rw [show 1000 - kk + kk = 1000 by omega, show 1000 - kk = (999 - kk) + 1 by omega, yp_C_f, if_neg (show ¬ yp_hd [(13, 0)] = 10 from (by decide))] at hu
        rw [he, ze_skip r1 (by omega) (by omega), zl_b]
        by_cases h41 : yp_pk T len r.2.1 = 41
        · have hp3 : r.2.1 < len := yp_pk_lt (T := T) (by omega)
          rw [if_pos h41] at hu ⊢
          obtain ⟨tL', lP', tS', sP', ea, em⟩ := ze_addClause (K := r.2.2.2.1) (V := r.2.2.2.2) (k := k) (f := f1) (h := c.1) (st := r.2.2.1) (tL := tL) (lP := lP) (tS := tS) (sP := sP) (g0 := kd) (g1 := fr) (g2 := hf) (g3 := to) n1 n2 c1.1 r4
          rw [ea, zl_b]
          refine zh_ret (Or.inr ⟨rfl, rfl, r.2.1 + 1, r.2.2, ?_, ⟨rfl, by omega, by omega⟩, rfl, ⟨rfl, rfl, rfl⟩, ⟨d2, b2, by omega, fun j hj => ⟨(b4 j (by omega)).1.trans (hk2 j hj).1, (b4 j (by omega)).2.trans (hk2 j hj).2⟩⟩, ⟨rfl, rfl, rfl, rfl⟩, em, ⟨ρ, b5⟩, ?_⟩)
          · unfold yp_CT
            rw [if_pos h40, hu, yp_la_n (w := [(13, 0)]) ⟨(by decide), fun _ => (by decide)⟩]
            rfl
          · cases ρE with
            | none => trivial
            | some ρ' => exact zd_seg_fr hE2 fun j _ j2 => b4 j j2
        · rw [if_neg h41] at hu ⊢
          rw [if_neg b6.1, if_neg b6.2] at hu
          obtain ⟨o, eo⟩ := ze_addClause_a (K := r.2.2.2.1) (V := r.2.2.2.2) (k := k) (f := f1) (h := c.1) (nc := nc) (st := r.2.2.1) (tL := tL) (lP := lP) (tS := tS) (sP := sP) (g0 := kd) (g1 := fr) (g2 := hf) (g3 := to) n1 (by omega) c1.1 r4
          rw [eo, zl_b]
          refine zh_ret (Or.inl ⟨fun h => ?_, Or.inl ⟨rfl, ?_⟩⟩)
          · have h : -1000 - r.2.1 = 0 := h
            omega
          · unfold yp_CT
            rw [if_pos h40, hu]
            rfl
      · rw [ze_skipf he, zl_b]
        obtain ⟨kk, l, u⟩ := rb he [(13, 0)] rfl
        have hu := u (999 - kk)
        rw [show 999 - kk + kk + 1 = 1000 by omega] at hu
        obtain ⟨o, eo⟩ := ze_addClause_a (K := r.2.2.2.1) (V := r.2.2.2.2) (k := k) (f := f1) (h := c.1) (nc := nc) (st := r.2.2.1) (tL := tL) (lP := lP) (tS := tS) (sP := sP) (g0 := kd) (g1 := fr) (g2 := hf) (g3 := to) n1 (by omega) c1.1 r4
        rw [eo, zl_b]
        refine zh_ret (Or.inl ⟨he, Or.inl ⟨rfl, ?_⟩⟩)
        unfold yp_CT
        rw [if_pos h40, hu]
        rfl
    · rw [if_neg h40]
      have hne : (-1000 - p : Int) ≠ 0 := by omega
      show zh_ok ((zf_LawReader_readCondition 1 (-1000 - p) p len c.1 T c.2.1 c.2.2).bind _) _
      rw [yr_readCondf hne (by omega) (by omega), zl_b, ze_skipf hne, zl_b]
      obtain ⟨o, eo⟩ := ze_addClause_a (K := c.2.1) (V := c.2.2) (k := k) (f := f1) (h := c.1) (nc := nc) (st := c.1) (tL := tL) (lP := lP) (tS := tS) (sP := sP) (g0 := kd) (g1 := fr) (g2 := hf) (g3 := to) n1 (by omega) c1.1 c1.2
      rw [eo, zl_b]
      refine zh_ret (Or.inl ⟨hne, Or.inl ⟨rfl, ?_⟩⟩)
      unfold yp_CT
      rw [if_neg h40]
  · rw [ze_skipf hf0, zl_b]
    show zh_ok ((zf_LawReader_readCondition 1 f p len c.1 T c.2.1 c.2.2).bind _) _
    rw [yr_readCondf hf0 (by omega) (by omega), zl_b, ze_skipf hf0, zl_b]
    obtain ⟨o, eo⟩ := ze_addClause_a (K := c.2.1) (V := c.2.2) (k := k) (f := f1) (h := c.1) (nc := nc) (st := c.1) (tL := tL) (lP := lP) (tS := tS) (sP := sP) (g0 := kd) (g1 := fr) (g2 := hf) (g3 := to) n1 (by omega) c1.1 c1.2
    rw [eo, zl_b]
    exact zh_ret (Or.inl ⟨hf0, Or.inr ⟨hf0, rfl⟩⟩)
/-- what the class leaves of a clause -/
def yx_cl (T : Int → Int) (len nc p : Int) (c : zCD) (tL lP tS sP : Int) (kd fr hf to : Int → Int) (o : zXO) : Prop :=
  (o.1 ≠ 0 ∧ yp_CL T len nc p c = some (.inl o.1)) ∨ (o.1 = 0 ∧ ∃ p' c' h ρE, yp_CL T len nc p c = some (.inr (p', c', yp_pk T len p, h)) ∧ yl_kind (yp_pk T len p) ∧ nc < 14 ∧ (yl_am (yp_pk T len p) → ∃ ρ, ρE = some ρ) ∧ yx_ok p c nc (yp_pk T len p) c.1 ρE tL lP tS sP kd fr hf to len p' h c' o)
theorem yx_clause (hl : len ≤ 200) (hT : ∀ j, 0 ≤ j → j < 220 → 0 ≤ T j ∧ T j ≤ 255) {nc tL lP tS sP p : Int} {kd fr hf to : Int → Int} {c : zCD} (n1 : 0 ≤ nc) (n2 : nc ≤ 14) (p1 : 0 ≤ p) (p2 : p ≤ len) (c1 : 0 ≤ c.1) (c2 : c.1 ≤ p) :
    zh_ok (zf_LawReader_readClause 0 p len nc c.1 tL lP tS sP T c.2.1 c.2.2 kd fr hf to) (yx_cl T len nc p c tL lP tS sP kd fr hf to) := by
  unfold zf_LawReader_readClause
  rw [if_pos rfl, ze_peek p1 (by omega), zl_b]
  have full : ∀ o14, zf_LawReader_fail 4 0 p = some o14 → yp_kd (yp_pk T len p) = true → nc = 14 → yx_cl T len nc p c tL lP tS sP kd fr hf to (o14, p, nc, c.1, tL, lP, tS, sP, c.2.1, c.2.2, kd, fr, hf, to) := by
    intro o14 e hkd h14
    rw [ze_fail p1 (by omega) (by decide) (by decide)] at e
    cases e
    refine Or.inl ⟨fun h => ?_, ?_⟩
    · have h : -1000 * 4 - p = 0 := h
      omega
    · unfold yp_CL
      rw [if_pos hkd, if_pos h14]
      rfl
  have amt : yp_ka (yp_pk T len p) = true → yp_kd (yp_pk T len p) = true → zh_ok (if nc = 14 then ((zf_LawReader_fail 4 0 p).bind fun r12 => (some (r12, p, nc, c.1, tL, lP, tS, sP, c.2.1, c.2.2, kd, fr, hf, to))) else ((zf_LawReader_readSum 0 0 (zi_w (p + 1)) len c.1 T c.2.1 c.2.2).bind fun r7 => ((zf_LawReader_skip 40 r7.1 r7.2.1 len T).bind fun r8 => ((zf_LawReader_readCondition 1 r8.1 r8.2 len r7.2.2.1 T r7.2.2.2.1 r7.2.2.2.2).bind fun r9 => ((zf_LawReader_skip 41 r9.1 r9.2.1 len T).bind fun r10 => ((zf_Law_addClause (yp_pk T len p) c.1 r7.2.2.1 nc r9.2.2.1 tL lP tS sP kd fr hf to r9.2.2.2.1 r9.2.2.2.2).bind fun r11 => (some (r10.1, r10.2, r11.1, r9.2.2.1, r11.2.1, r11.2.2.1, r11.2.2.2.1, r11.2.2.2.2.1, r9.2.2.2.1, r9.2.2.2.2, r11.2.2.2.2.2.1, r11.2.2.2.2.2.2.1, r11.2.2.2.2.2.2.2.1, r11.2.2.2.2.2.2.2.2)))))))) (yx_cl T len nc p c tL lP tS sP kd fr hf to) := by
    intro hka hkd
    by_cases h14 : nc = 14
    · rw [if_pos h14]
      have e := ze_fail (k := 4) p1 (by omega : p ≤ 220) (by decide) (by decide)
      rw [e, zl_b]
      exact zh_ret (full _ e hkd h14)
    · rw [if_neg h14]
      have hka' : yp_pk T len p = 119 ∨ yp_pk T len p = 103 ∨ yp_pk T len p = 113 := of_decide_eq_true hka
      have hkd' : yp_pk T len p = 118 ∨ yp_pk T len p = 106 ∨ yp_pk T len p = 119 ∨ yp_pk T len p = 103 ∨ yp_pk T len p = 113 := of_decide_eq_true hkd
      have hp : p < len := yp_pk_lt (T := T) (by rcases hka' with h | h | h <;> omega)
      rw [zi_w_id (x := p + 1) (by omega) (by omega)]
      refine zh_bind (yr_readSum hl hT (by decide) (by decide) (p + 1) c (by omega) (by omega) c1 (by omega)) fun r hr => ?_
      obtain ⟨⟨r1, r2⟩, ⟨r3, r4⟩, ro, rb⟩ := hr
      by_cases he : r.1 = 0
      · have ro := ro he
        have hS := yr_sumS hl (by omega) r2 ro
        obtain ⟨b1, b2, b3, b4, ⟨ρ, b5⟩, b6, b7⟩ := ro
        refine zh_mono (yx_tail (ρE := some ρ) (p0 := p) (c0 := c) hl hT n1 (by omega) (by omega) p1 r2 c1 (fun _ => ⟨by omega, by omega, by omega, by omega⟩) ⟨r3, r4⟩ (fun _ => b4) (fun _ => zd_seg_nd b5 (by decide))) fun o ho => ?_
        rcases ho with ⟨o1, o2⟩ | ⟨o1, -, p', c', o2, o3⟩
        · refine Or.inl ⟨o1, ?_⟩
          unfold yp_CL
          rw [if_pos hkd, if_neg h14, if_pos hka, hS, zl_b]
          rcases o2 with ⟨_, o2⟩ | ⟨o2, _⟩
          · exact o2
          · exact absurd he o2
        · refine Or.inr ⟨o1, p', c', r.2.2.1, some ρ, ?_, hkd', by omega, fun _ => ⟨ρ, rfl⟩, o3⟩
          unfold yp_CL
          rw [if_pos hkd, if_neg h14, if_pos hka, hS, zl_b]
          exact o2
      · have hS := yr_sumN hl (by omega) (rb he)
        refine zh_mono (yx_tail (ρE := none) (p0 := 0) (c0 := c) hl hT n1 (by omega) r1 (by decide) r2 c1 (fun h => absurd h he) ⟨r3, r4⟩ (fun h => absurd h he) (fun h => absurd h he)) fun o ho => ?_
        rcases ho with ⟨o1, o2⟩ | ⟨o1, o2, _⟩
        · refine Or.inl ⟨o1, ?_⟩
          unfold yp_CL
          rw [if_pos hkd, if_neg h14, if_pos hka, hS, zl_b]
          rcases o2 with ⟨o2, _⟩ | ⟨_, o2⟩
          · exact absurd o2 he
          · rw [o2]; rfl
        · exact absurd o2 he
  have pln : ¬ yp_ka (yp_pk T len p) = true → yp_kd (yp_pk T len p) = true → zh_ok (if nc = 14 then ((zf_LawReader_fail 4 0 p).bind fun r32 => (some (r32, p, nc, c.1, tL, lP, tS, sP, c.2.1, c.2.2, kd, fr, hf, to))) else ((zf_LawReader_skip 40 0 (zi_w (p + 1)) len T).bind fun r28 => ((zf_LawReader_readCondition 1 r28.1 r28.2 len c.1 T c.2.1 c.2.2).bind fun r29 => ((zf_LawReader_skip 41 r29.1 r29.2.1 len T).bind fun r30 => ((zf_Law_addClause (yp_pk T len p) c.1 c.1 nc r29.2.2.1 tL lP tS sP kd fr hf to r29.2.2.2.1 r29.2.2.2.2).bind fun r31 => (some (r30.1, r30.2, r31.1, r29.2.2.1, r31.2.1, r31.2.2.1, r31.2.2.2.1, r31.2.2.2.2.1, r29.2.2.2.1, r29.2.2.2.2, r31.2.2.2.2.2.1, r31.2.2.2.2.2.2.1, r31.2.2.2.2.2.2.2.1, r31.2.2.2.2.2.2.2.2))))))) (yx_cl T len nc p c tL lP tS sP kd fr hf to) := by
    intro hka hkd
    by_cases h14 : nc = 14
    · rw [if_pos h14]
      have e := ze_fail (k := 4) p1 (by omega : p ≤ 220) (by decide) (by decide)
      rw [e, zl_b]
      exact zh_ret (full _ e hkd h14)
    · rw [if_neg h14]
      have hkd' : yp_pk T len p = 118 ∨ yp_pk T len p = 106 ∨ yp_pk T len p = 119 ∨ yp_pk T len p = 103 ∨ yp_pk T len p = 113 := of_decide_eq_true hkd
      have hp : p < len := yp_pk_lt (T := T) (by rcases hkd' with h | h | h | h | h <;> omega)
      rw [zi_w_id (x := p + 1) (by omega) (by omega)]
      refine zh_mono (yx_tail (ρE := none) (p0 := p) (c0 := c) (f := 0) hl hT n1 (by omega) (by omega) p1 (by omega) c1 (fun _ => ⟨by omega, by omega, by omega, by omega⟩) ⟨c1, by omega⟩ (fun _ _ _ => ⟨rfl, rfl⟩) (fun _ => trivial)) fun o ho => ?_
      rcases ho with ⟨o1, o2⟩ | ⟨o1, -, p', c', o2, o3⟩
      · refine Or.inl ⟨o1, ?_⟩
        unfold yp_CL
        rw [if_pos hkd, if_neg h14, if_neg hka]
        rcases o2 with ⟨_, o2⟩ | ⟨o2, _⟩
        · exact o2
        · exact absurd rfl o2
      · refine Or.inr ⟨o1, p', c', c.1, none, ?_, hkd', by omega, fun h => absurd (by unfold yp_ka; exact decide_eq_true h) hka, o3⟩
        unfold yp_CL
        rw [if_pos hkd, if_neg h14, if_neg hka]
        exact o2
  by_cases h119 : yp_pk T len p = 119
  · rw [if_pos h119]
    exact amt (by rw [h119]; rfl) (by rw [h119]; rfl)
  rw [if_neg h119]
  by_cases h103 : yp_pk T len p = 103
  · rw [if_pos h103]
    exact amt (by rw [h103]; rfl) (by rw [h103]; rfl)
  rw [if_neg h103]
  by_cases h113 : yp_pk T len p = 113
  · rw [if_pos h113]
    exact amt (by rw [h113]; rfl) (by rw [h113]; rfl)
  rw [if_neg h113]
  by_cases h118 : yp_pk T len p = 118
  · rw [if_pos h118]
    exact pln (by rw [h118]; decide) (by rw [h118]; rfl)
  rw [if_neg h118]
  by_cases h106 : yp_pk T len p = 106
  · rw [if_pos h106]
    exact pln (by rw [h106]; decide) (by rw [h106]; rfl)
  rw [if_neg h106, ze_fail p1 (by omega) (by decide) (by decide), zl_b]
  refine zh_ret (Or.inl ⟨fun h => ?_, ?_⟩)
  · have h : -1000 * 1 - p = 0 := h
    omega
  · unfold yp_CL
    rw [if_neg (fun h => by
      have h := of_decide_eq_true h
      rcases h with h | h | h | h | h
      · exact h118 h
      · exact h106 h
      · exact h119 h
      · exact h103 h
      · exact h113 h)]
    rfl
end YXC
end
section
/-! A clause, read by the reference. -/
section YMC
variable {T M : Int → Int} {len : Int}
theorem ym_cond (hT : yk_T T M) (hl : len ≤ 200) {k p : Int} {c : zCD} {f m num o kk : Int} {W D : Int → Int} {R : Int ⊕ (Int × zCD × Int × Int)} (h : yp_CT T len k p c = some R) (hc : yk_c c m D) (p1 : 0 ≤ p) (p2 : p ≤ len) (cp : c.1 ≤ p) :
    zh_ok (zf_M_readsCondition p len o kk f m num M W D) (fun t => (t.1 = 0 ∧ R = .inl t.2.2.2.2.1) ∨ (t.1 = 1 ∧ ∃ c', R = .inr (t.2.1, c', k, c.1) ∧ yk_c c' t.2.2.2.2.2.1 t.2.2.2.2.2.2.2.2 ∧ (0 ≤ t.2.1 ∧ t.2.1 ≤ len) ∧ c'.1 ≤ t.2.1)) := by
  unfold yp_CT at h
  by_cases h40 : yp_pk T len p = 40
  · rw [if_pos h40] at h
    obtain ⟨q, hq, h⟩ := zi_bind h
    refine zh_mono (ys_cond hT hl h40 hq (by decide) hc p1 cp) fun t ht => ?_
    rcases ht with ⟨t1, t2⟩ | ⟨t1, c', t2, t3⟩
    · subst t2
      simp only [Sum.elim_inl] at h
      cases h
      exact Or.inl ⟨t1, rfl⟩
    · subst t2
      simp only [Sum.elim_inr] at h
      cases h
      exact Or.inr ⟨t1, c', rfl, t3⟩
  · rw [if_neg h40] at h
    cases h
    rw [ys_condN hT hl h40 p1 p2]
    exact zh_ret (Or.inl ⟨rfl, rfl⟩)
theorem ze_isClause {c : Int} : zf_M_isClause c = some (if yp_kd c = true then 1 else 0) := by
  unfold zf_M_isClause
  by_cases h1 : c = 118
  · subst h1; rfl
  rw [if_neg h1]
  by_cases h2 : c = 106
  · subst h2; rfl
  rw [if_neg h2]
  by_cases h3 : c = 119
  · subst h3; rfl
  rw [if_neg h3]
  by_cases h4 : c = 103
  · subst h4; rfl
  rw [if_neg h4]
  by_cases h5 : c = 113
  · subst h5; rfl
  rw [if_neg h5, if_neg]
  intro h
  rcases (of_decide_eq_true h : c = 118 ∨ c = 106 ∨ c = 119 ∨ c = 103 ∨ c = 113) with h | h | h | h | h
  · exact h1 h
  · exact h2 h
  · exact h3 h
  · exact h4 h
  · exact h5 h
abbrev zMO : Type := Int × Int × Int × Int × Int × Int × Int × Int × (Int → Int) × (Int → Int) × (Int → Int) × (Int → Int) × (Int → Int) × (Int → Int)
def ym_ok (T : Int → Int) (len nc p : Int) (c : zCD) (g1 g2 g3 g6 : Int → Int) (R : Int ⊕ (Int × zCD × Int × Int)) (t : zMO) : Prop :=
  (t.1 = 0 ∧ R = .inl t.2.2.2.2.2.2.1) ∨ (t.1 = 1 ∧ ∃ c' h, R = .inr (t.2.1, c', yp_pk T len p, h) ∧ t.2.2.1 = nc + 1 ∧ yk_c c' t.2.2.2.1 t.2.2.2.2.2.2.2.2.2.2.2.2.1 ∧ ((0 ≤ t.2.1 ∧ t.2.1 ≤ len) ∧ c'.1 ≤ t.2.1) ∧
    t.2.2.2.2.2.2.2.2.1 = zv_up g1 nc (yp_pk T len p) ∧ t.2.2.2.2.2.2.2.2.2.1 = zv_up g2 nc c.1 ∧ t.2.2.2.2.2.2.2.2.2.2.1 = zv_up g3 nc h ∧ t.2.2.2.2.2.2.2.2.2.2.2.2.2 = zv_up g6 nc c'.1)
theorem ym_clause (hT : yk_T T M) (hl : len ≤ 200) {nc p : Int} {c : zCD} {m o k f num : Int} {g1 g2 g3 W D g6 : Int → Int} {R : Int ⊕ (Int × zCD × Int × Int)} (h : yp_CL T len nc p c = some R) (hc : yk_c c m D) (n1 : 0 ≤ nc) (n2 : nc ≤ 14) (p1 : 0 ≤ p) (p2 : p ≤ len) (cp : c.1 ≤ p) :
    zh_ok (zf_M_readsClause p len nc m o k f num M g1 g2 g3 W D g6) (ym_ok T len nc p c g1 g2 g3 g6 R) := by
  unfold yp_CL at h
  unfold zf_M_readsClause
  rw [ze_here hT p1 (by omega), zl_b, ze_isClause, zl_b]
  obtain ⟨me, m0⟩ := hc.1
  by_cases hk : yp_kd (yp_pk T len p) = true
  · rw [if_pos hk] at h
    rw [if_pos hk, if_neg (by decide)]
    by_cases h14 : nc = 14
    · rw [if_pos h14] at h
      cases h
      rw [if_pos h14, ze_wrong p1 (by omega) (by decide) (by decide), zl_b]
      exact zh_ret (Or.inl ⟨rfl, rfl⟩)
    · rw [if_neg h14] at h
      have hkd : yp_pk T len p = 118 ∨ yp_pk T len p = 106 ∨ yp_pk T len p = 119 ∨ yp_pk T len p = 103 ∨ yp_pk T len p = 113 := of_decide_eq_true hk
      have hp : p < len := yp_pk_lt (T := T) (by omega)
      rw [if_neg h14, zl_ci n1 (by omega), zi_w_id (x := p + 1) (by omega) (by omega), zi_w_id (x := nc + 1) (by omega) (by omega)]
      have pln : ¬ yp_ka (yp_pk T len p) = true → zh_ok ((zf_M_readsCondition (p + 1) len 0 0 f m num M W D).bind fun r7 => (if r7.1 = 0 then (some ((0 : Int), r7.2.1, nc, r7.2.2.2.2.2.1, r7.2.2.1, r7.2.2.2.1, r7.2.2.2.2.1, r7.2.2.2.2.2.2.1, (zv_up g1 nc (yp_pk T len p)), (zv_up g2 nc m), (zv_up g3 nc m), r7.2.2.2.2.2.2.2.1, r7.2.2.2.2.2.2.2.2, g6)) else (some ((1 : Int), r7.2.1, nc + 1, r7.2.2.2.2.2.1, r7.2.2.1, r7.2.2.2.1, r7.2.2.2.2.1, r7.2.2.2.2.2.2.1, (zv_up g1 nc (yp_pk T len p)), (zv_up g2 nc m), (zv_up g3 nc m), r7.2.2.2.2.2.2.2.1, r7.2.2.2.2.2.2.2.2, (zv_up g6 nc r7.2.2.2.2.2.1))))) (ym_ok T len nc p c g1 g2 g3 g6 R) := by
        intro hka
        rw [if_neg hka] at h
        refine zh_bind (ym_cond hT hl h hc (by omega) (by omega) (by omega)) fun t ht => ?_
        rcases ht with ⟨t1, t2⟩ | ⟨t1, c', t2, t3, t4, t5⟩
        · rw [if_pos t1]
          exact zh_ret (Or.inl ⟨rfl, t2⟩)
        · rw [if_neg (by omega)]
          obtain ⟨me2, _⟩ := t3.1
          exact zh_ret (Or.inr ⟨rfl, c', c.1, t2, rfl, t3, ⟨t4, t5⟩, rfl, by rw [me], by rw [me], by rw [me2]⟩)
      by_cases h118 : yp_pk T len p = 118
      · rw [if_pos h118]
        exact pln (by rw [h118]; decide)
      rw [if_neg h118]
      by_cases h106 : yp_pk T len p = 106
      · rw [if_pos h106]
        exact pln (by rw [h106]; decide)
      rw [if_neg h106]
      have hka : yp_ka (yp_pk T len p) = true := decide_eq_true (by omega)
      rw [if_pos hka] at h
      obtain ⟨q, hq, h⟩ := zi_bind h
      refine zh_bind (ys_sum (b := 0) (sl := 0) hT hl (by decide) hq (by decide) (Or.inl rfl) hc (by omega) (by omega) (by omega) (by show c.1 + ((0 : Nat) : Int) ≤ p + 1; omega) (by decide) (by decide)) fun t ht => ?_
      rcases ht with ⟨t1, t2⟩ | ⟨t1, c1, t2, t3, t4, t5, ⟨t6, t7⟩, t8, ⟨t9, t11⟩, t10⟩
      · subst t2
        simp only [Sum.elim_inl] at h
        cases h
        rw [if_pos t1]
        exact zh_ret (Or.inl ⟨rfl, rfl⟩)
      · subst t2
        simp only [Sum.elim_inr] at h
        obtain ⟨me1, _⟩ := t5.1
        rw [if_neg (by omega)]
        have t9 : c1.1 + ((0 : Nat) : Int) ≤ t.2.2.1 := t9
        refine zh_bind (ym_cond hT hl h t5 t6 t7 (by omega)) fun u hu => ?_
        rcases hu with ⟨u1, u2⟩ | ⟨u1, c', u2, u3, u4, u5⟩
        · rw [if_pos u1]
          exact zh_ret (Or.inl ⟨rfl, u2⟩)
        · rw [if_neg (by omega)]
          obtain ⟨me2, _⟩ := u3.1
          exact zh_ret (Or.inr ⟨rfl, c', c1.1, u2, rfl, u3, ⟨u4, u5⟩, rfl, by rw [me], by rw [me1], by rw [me2]⟩)
  · rw [if_neg hk] at h
    cases h
    rw [if_neg hk, if_pos rfl, ze_wrong p1 (by omega) (by decide) (by decide), zl_b]
    exact zh_ret (Or.inl ⟨rfl, rfl⟩)
end YMC
end
section
/-! A whole law, read on both sides. -/
section YLPOS
variable {T : Int → Int} {len : Int}
theorem yp_nm_0 : ∀ (k : Nat) (v p : Int), 0 ≤ p → 0 ≤ (yp_nm T len k v p).2
  | 0, _, _, h => h
  | k + 1, v, p, h => by
    unfold yp_nm
    split
    · exact yp_nm_0 k _ _ (by omega)
    · exact h
theorem yp_S_pos : ∀ (n : Nat) (b : Bool) (w : List Int) (o p : Int) (c : zCD) (R : Int ⊕ (Int × zCD)), 0 ≤ p → yp_S T len n b w o p c = some R → Sum.elim (fun f => f < 0) (fun q => 0 ≤ q.1) R := by
  intro n
  induction n with
  | zero => intro b w o p c R _ h; exact zl_ns h
  | succ n ih =>
    intro b w o p c R hp h
    cases b with
    | true =>
      rw [yp_S_t] at h
      split at h
      · split at h
        · cases h; show -5000 - p < 0; omega
        · exact ih _ _ _ _ _ _ (by omega) h
      · split at h
        · have := yp_nm_0 (T := T) (len := len) 5 0 p hp
          split at h
          · cases h; show -2000 - _ < 0; omega
          · exact ih _ _ _ _ _ _ this h
        · split at h
          · cases h; show -1000 - p < 0; omega
          · exact ih _ _ _ _ _ _ (by omega) h
    | false =>
      rw [yp_S_f] at h
      split at h
      · exact ih _ _ _ _ _ _ (by omega) h
      · split at h
        · split at h
          · exact ih _ _ _ _ _ _ (by omega) h
          · cases h; show -1000 - p < 0; omega
        · cases h; exact hp
theorem yp_C_pos : ∀ (n : Nat) (b : Bool) (w : zWT) (o p : Int) (c : zCD) (R : Int ⊕ (Int × zCD)), 0 ≤ p → yp_C T len n b w o p c = some R → Sum.elim (fun f => f < 0) (fun q => 0 ≤ q.1) R := by
  intro n
  induction n with
  | zero => intro b w o p c R _ h; exact zl_ns h
  | succ n ih =>
    intro b w o p c R hp h
    cases b with
    | true =>
      rw [yp_C_t] at h
      split at h
      · split at h
        · cases h; show -5000 - p < 0; omega
        · exact ih _ _ _ _ _ _ (by omega) h
      · split at h
        · split at h
          · cases h; show -5000 - p < 0; omega
          · exact ih _ _ _ _ _ _ (by omega) h
        · obtain ⟨q, hq, h⟩ := zi_bind h
          have hq2 := yp_S_pos _ _ _ _ _ _ _ hp hq
          cases q with
          | inl f =>
            simp only [Sum.elim_inl] at h
            cases h
            exact hq2
          | inr q =>
            simp only [Sum.elim_inr] at h hq2
            split at h
            · cases h; show -1000 - q.1 < 0; omega
            · obtain ⟨u, hu, h⟩ := zi_bind h
              have hu2 := yp_S_pos _ _ _ _ _ _ _ (by omega) hu
              cases u with
              | inl f =>
                simp only [Sum.elim_inl] at h
                cases h
                exact hu2
              | inr u =>
                simp only [Sum.elim_inr] at h hu2
                exact ih _ _ _ _ _ _ hu2 h
    | false =>
      rw [yp_C_f] at h
      split at h
      · exact ih _ _ _ _ _ _ hp h
      · split at h
        · split at h
          · cases h; show 0 ≤ p + 1; omega
          · exact ih _ _ _ _ _ _ (by omega) h
        · split at h
          · exact ih _ _ _ _ _ _ (by omega) h
          · split at h
            · exact ih _ _ _ _ _ _ (by omega) h
            · cases h; show -1000 - p < 0; omega
theorem yp_CT_neg {k p f : Int} {c : zCD} (hp : 0 ≤ p) (h : yp_CT T len k p c = some (.inl f)) : f < 0 := by
  unfold yp_CT at h
  split at h
  · obtain ⟨q, hq, h⟩ := zi_bind h
    have hq2 := yp_C_pos _ _ _ _ _ _ _ (by omega) hq
    cases q with
    | inl g =>
      simp only [Sum.elim_inl] at h
      cases h
      exact hq2
    | inr q =>
      simp only [Sum.elim_inr] at h
      cases h
  · cases h; omega
theorem yp_CL_neg {nc p f : Int} {c : zCD} (hp : 0 ≤ p) (h : yp_CL T len nc p c = some (.inl f)) : f < 0 := by
  unfold yp_CL at h
  split at h
  · split at h
    · cases h; omega
    · split at h
      · obtain ⟨q, hq, h⟩ := zi_bind h
        have hq2 := yp_S_pos _ _ _ _ _ _ _ (by omega) hq
        cases q with
        | inl g =>
          simp only [Sum.elim_inl] at h
          cases h
          exact hq2
        | inr q =>
          simp only [Sum.elim_inr] at h hq2
          exact yp_CT_neg hq2 h
      · exact yp_CT_neg (by omega) h
  · cases h; omega
end YLPOS
/-- both sides, while all goes well -/
def yl_J (len : Int) (L : zLW) (p : Int) (c : zCD) (nc tS tL sP lP : Int) (kd fr hf to : Int → Int) (m sm : Int) (g1 g2 g3 g5 g6 : Int → Int) : Prop :=
  (nc = L.1 ∧ 0 ≤ nc ∧ nc ≤ 14) ∧ (0 ≤ p ∧ p ≤ len) ∧ (0 ≤ c.1 ∧ c.1 ≤ p) ∧ (∀ q, 0 ≤ q → q < nc → kd q = L.2.1 q ∧ g1 q = L.2.1 q ∧ g2 q = fr q ∧ g3 q = hf q ∧ g6 q = to q) ∧ yl_cl c.2.1 c.2.2 c.1 L fr hf to ∧ yl_fl c.2.1 c.2.2 L hf to tS tL sP lP ∧ yk_c c m g5 ∧ sm = nc
theorem yl_fl_add {K V K2 V2 : Int → Int} {L : zLW} {hf to : Int → Int} {tS tL sP lP tS2 tL2 sP2 lP2 k h st st2 : Int} {ρC ρE : (Int → Int) → Option Int} (h0 : 0 ≤ L.1) (hf0 : yl_fl K V L hf to tS tL sP lP) (hm : yl_mk K2 V2 k h st2 tL lP tS sP tL2 lP2 tS2 sP2) (hK : ∀ j, j < st → K2 j = K j ∧ V2 j = V j) (hto : ∀ q, 0 ≤ q → q < L.1 → to q ≤ st) : yl_fl K2 V2 (yl_add L k ρC ρE) (zv_up hf L.1 h) (zv_up to L.1 st2) tS2 tL2 sP2 lP2 := by
  obtain ⟨⟨a1, a2⟩, ⟨a3, a4, a5⟩, a6, a7⟩ := hf0
  obtain ⟨⟨m1, m2⟩, m3, m4⟩ := hm
  refine ⟨⟨?_, ?_⟩, ⟨?_, ?_, ?_⟩, ?_, ?_⟩
  · rw [m1]; exact yl_tell_add h0 a1
  · rw [m2]; exact yl_tell_add h0 a2
  · exact yl_byp_add a3 (fun e => ⟨(m3 e).1, fun hk j j1 j2 j3 => ((m3 e).2 hk j j1 j2 j3).1⟩) hK hto
  · exact yl_byp_add a4 (fun e => ⟨(m3 e).1, fun hk j j1 j2 j3 => ((m3 e).2 hk j j1 j2 j3).2.1⟩) hK hto
  · exact yl_byp_add a5 (fun e => ⟨(m3 e).1, fun hk j j1 j2 j3 => ((m3 e).2 hk j j1 j2 j3).2.2⟩) hK hto
  · exact yl_byp_add a6 (fun e => ⟨(m4 e).1, fun hk j j1 j2 j3 => ((m4 e).2 hk j j1 j2 j3).1⟩) hK hto
  · exact yl_byp_add a7 (fun e => ⟨(m4 e).1, fun hk j j1 j2 j3 => ((m4 e).2 hk j j1 j2 j3).2⟩) hK hto
section YLJ
variable {T M : Int → Int} {len : Int}
/-- one clause on both sides -/
theorem yl_step (hT : yk_T T M) (hl : len ≤ 200) {L : zLW} {p : Int} {c : zCD} {nc tS tL sP lP : Int} {kd fr hf to : Int → Int} {m sm : Int} {g1 g2 g3 g4 g5 g6 : Int → Int} {o k f num : Int} (J : yl_J len L p c nc tS tL sP lP kd fr hf to m sm g1 g2 g3 g5 g6) :
    ∃ (x : zXO) (y : zMO), zf_LawReader_readClause 0 p len nc c.1 tL lP tS sP T c.2.1 c.2.2 kd fr hf to = some x ∧ zf_M_readsClause p len sm m o k f num M g1 g2 g3 g4 g5 g6 = some y ∧
      ((x.1 < 0 ∧ y.1 = 0 ∧ y.2.2.2.2.2.2.1 = x.1) ∨ (x.1 = 0 ∧ y.1 = 1 ∧ y.2.1 = x.2.1 ∧ p < x.2.1 ∧ x.2.2.1 = nc + 1 ∧ ∃ L2, yl_J len L2 x.2.1 (x.2.2.2.1, x.2.2.2.2.2.2.2.2.1, x.2.2.2.2.2.2.2.2.2.1) x.2.2.1 x.2.2.2.2.2.2.1 x.2.2.2.2.1 x.2.2.2.2.2.2.2.1 x.2.2.2.2.2.1 x.2.2.2.2.2.2.2.2.2.2.1 x.2.2.2.2.2.2.2.2.2.2.2.1 x.2.2.2.2.2.2.2.2.2.2.2.2.1 x.2.2.2.2.2.2.2.2.2.2.2.2.2 y.2.2.2.1 y.2.2.1 y.2.2.2.2.2.2.2.2.1 y.2.2.2.2.2.2.2.2.2.1 y.2.2.2.2.2.2.2.2.2.2.1 y.2.2.2.2.2.2.2.2.2.2.2.2.1 y.2.2.2.2.2.2.2.2.2.2.2.2.2)) := by
  obtain ⟨⟨j1, j2, j3⟩, ⟨j4, j5⟩, ⟨j6, j7⟩, j8, j9, j10, j11, j12⟩ := J
  obtain ⟨x, ex, hx⟩ := yx_clause (tL := tL) (lP := lP) (tS := tS) (sP := sP) (kd := kd) (fr := fr) (hf := hf) (to := to) hl (fun j a b => (hT j a b).2) j2 j3 j4 j5 j6 j7
  rcases hx with ⟨x1, x2⟩ | ⟨x1, p', c', h, ρE, x2, x3, x4, x5, x6⟩
  · obtain ⟨y, ey, hy⟩ := ym_clause (o := o) (k := k) (f := f) (num := num) (g1 := g1) (g2 := g2) (g3 := g3) (W := g4) (g6 := g6) hT hl x2 j11 j2 j3 j4 j5 j7
    rcases hy with ⟨y1, y2⟩ | ⟨y1, c', h, y2, _⟩
    · refine ⟨x, y, ex, by rw [j12]; exact ey, Or.inl ⟨yp_CL_neg j4 x2, y1, (Sum.inl.inj y2).symm⟩⟩
    · cases y2
  · obtain ⟨y, ey, hy⟩ := ym_clause (o := o) (k := k) (f := f) (num := num) (g1 := g1) (g2 := g2) (g3 := g3) (W := g4) (g6 := g6) hT hl x2 j11 j2 j3 j4 j5 j7
    rcases hy with ⟨y1, y2⟩ | ⟨y1, c2, h2, y2, y3, y4, ⟨⟨y5, y6⟩, y7⟩, y8, y9, y10, y11⟩
    · cases y2
    · obtain ⟨⟨a1, a2, a3⟩, a4, ⟨a5, a6, a7⟩, ⟨a8, a9, a10, a11⟩, ⟨a12, a13, a14, a15⟩, a16, ⟨ρC, a17⟩, a18⟩ := x6
      have e1 : p' = y.2.1 ∧ c' = c2 ∧ h = h2 := by
        cases y2
        exact ⟨rfl, rfl, rfl⟩
      obtain ⟨e1, e2, e3⟩ := e1
      subst e2
      subst e3
      refine ⟨x, y, ex, by rw [j12]; exact ey, Or.inr ⟨x1, y1, by rw [a1, e1], by omega, a4, yl_add L (yp_pk T len p) ρC (ρE.getD fun _ => none), ?_⟩⟩
      have ec : (x.2.2.2.1, x.2.2.2.2.2.2.2.2.1, x.2.2.2.2.2.2.2.2.2.1) = c' := by
        rw [a5, a6, a7]
      rw [ec, a12, a13, a14, a15, y8, y9, y10, y11, j1]
      obtain ⟨ym, y0⟩ := y4.1
      refine ⟨⟨by rw [a4, j1]; rfl, by omega, by omega⟩, ⟨by omega, by omega⟩, ⟨y0, by omega⟩, fun q q1 q2 => ?_, ?_, ?_, y4, by omega⟩
      · rw [a4] at q2
        show zv_up kd L.1 (yp_pk T len p) q = zv_up L.2.1 L.1 (yp_pk T len p) q ∧ zv_up g1 L.1 (yp_pk T len p) q = zv_up L.2.1 L.1 (yp_pk T len p) q ∧ zv_up g2 L.1 c.1 q = zv_up fr L.1 c.1 q ∧ zv_up g3 L.1 h q = zv_up hf L.1 h q ∧ zv_up g6 L.1 c'.1 q = zv_up to L.1 c'.1 q
        by_cases e : q = L.1
        · subst e
          exact ⟨by rw [zv_up_s, zv_up_s], by rw [zv_up_s, zv_up_s], by rw [zv_up_s, zv_up_s], by rw [zv_up_s, zv_up_s], by rw [zv_up_s, zv_up_s]⟩
        · obtain ⟨b1, b2, b3, b4, b5⟩ := j8 q q1 (by omega)
          exact ⟨by rw [zv_up_n e, zv_up_n e]; exact b1, by rw [zv_up_n e, zv_up_n e]; exact b2, by rw [zv_up_n e, zv_up_n e]; exact b3, by rw [zv_up_n e, zv_up_n e]; exact b4, by rw [zv_up_n e, zv_up_n e]; exact b5⟩
      · refine yl_cl_add j9 a11 x3 (Int.le_refl _) a8 a9 j6 a17 fun ha => ?_
        obtain ⟨ρ, eρ⟩ := x5 ha
        subst eρ
        exact a18
      · exact yl_fl_add (by omega) j10 a16 a11 fun q q1 q2 => (j9 q q1 q2).2.1.2.2.2
theorem yx_readf {n : Nat} {mo f p st nc tS tL sP lP : Int} {K V kd fr hf to : Int → Int} (hf0 : f ≠ 0) : zf_LawReader_read_l0 len T (n + 1) mo p f st nc tS tL sP lP K V kd fr hf to = some (p, f, st, nc, tS, tL, sP, lP, K, V, kd, fr, hf, to) := by
  show zf_LawReader_read_l0_b len T (zf_LawReader_read_l0 len T n) mo p f st nc tS tL sP lP K V kd fr hf to = _
  unfold zf_LawReader_read_l0_b
  by_cases h : mo < 14
  · rw [if_pos h, if_neg hf0]
  · rw [if_neg h]
theorem ym_lawf {n : Nat} {p m sm o k f num : Int} {g1 g2 g3 g4 g5 g6 : Int → Int} : zf_M_law_l0 len M (n + 1) 0 p m sm o k f num g1 g2 g3 g4 g5 g6 = some (0, p, m, sm, o, k, f, num, g1, g2, g3, g4, g5, g6) := by
  show zf_M_law_l0_b len M (zf_M_law_l0 len M n) 0 p m sm o k f num g1 g2 g3 g4 g5 g6 = _
  unfold zf_M_law_l0_b
  rw [if_pos rfl]
/-- the clauses that follow, on both sides -/
theorem yl_loop (hT : yk_T T M) (hl : len ≤ 200) : ∀ (d : Nat) {L : zLW} {p : Int} {c : zCD} {nc tS tL sP lP : Int} {kd fr hf to : Int → Int} {m sm : Int} {g1 g2 g3 g4 g5 g6 : Int → Int} {o k f num : Int} (n n2 : Nat), len - p ≤ d → 1 ≤ nc → d + 1 < n → d + 1 < n2 → yl_J len L p c nc tS tL sP lP kd fr hf to m sm g1 g2 g3 g5 g6 →
    ∃ x y, zf_LawReader_read_l0 len T n (nc - 1) p 0 c.1 nc tS tL sP lP c.2.1 c.2.2 kd fr hf to = some x ∧ zf_M_law_l0 len M n2 1 p m sm o k f num g1 g2 g3 g4 g5 g6 = some y ∧
      ((x.2.1 < 0 ∧ y.1 = 0 ∧ y.2.2.2.2.2.2.1 = x.2.1) ∨ (x.2.1 = 0 ∧ y.1 = 1 ∧ ∃ L2, yl_J len L2 x.1 (x.2.2.1, x.2.2.2.2.2.2.2.2.1, x.2.2.2.2.2.2.2.2.2.1) x.2.2.2.1 x.2.2.2.2.1 x.2.2.2.2.2.1 x.2.2.2.2.2.2.1 x.2.2.2.2.2.2.2.1 x.2.2.2.2.2.2.2.2.2.2.1 x.2.2.2.2.2.2.2.2.2.2.2.1 x.2.2.2.2.2.2.2.2.2.2.2.2.1 x.2.2.2.2.2.2.2.2.2.2.2.2.2 y.2.2.1 y.2.2.2.1 y.2.2.2.2.2.2.2.2.1 y.2.2.2.2.2.2.2.2.2.1 y.2.2.2.2.2.2.2.2.2.2.1 y.2.2.2.2.2.2.2.2.2.2.2.2.1 y.2.2.2.2.2.2.2.2.2.2.2.2.2 ∧ 1 ≤ x.2.2.2.1)) := by
  intro d
  induction d with
  | zero =>
    intro L p c nc tS tL sP lP kd fr hf to m sm g1 g2 g3 g4 g5 g6 o k f num n n2 hd hn h1 h2 J
    obtain ⟨n, rfl⟩ : ∃ q, n = q + 1 := ⟨n - 1, by omega⟩
    obtain ⟨n2, rfl⟩ : ∃ q, n2 = q + 1 := ⟨n2 - 1, by omega⟩
    have hnc := J.1.2.2
    refine ⟨(p, 0, c.1, nc, tS, tL, sP, lP, c.2.1, c.2.2, kd, fr, hf, to), (1, p, m, sm, o, k, f, num, g1, g2, g3, g4, g5, g6), ?_, ?_, Or.inr ⟨rfl, rfl, L, J, hn⟩⟩
    · show zf_LawReader_read_l0_b len T (zf_LawReader_read_l0 len T n) (nc - 1) p 0 c.1 nc tS tL sP lP c.2.1 c.2.2 kd fr hf to = some (p, 0, c.1, nc, tS, tL, sP, lP, c.2.1, c.2.2, kd, fr, hf, to)
      unfold zf_LawReader_read_l0_b
      rw [if_pos (by omega), if_pos rfl, if_neg (by omega)]
    · show zf_M_law_l0_b len M (zf_M_law_l0 len M n2) 1 p m sm o k f num g1 g2 g3 g4 g5 g6 = _
      unfold zf_M_law_l0_b
      rw [if_neg (by decide), if_neg (by omega)]
  | succ d ih =>
    intro L p c nc tS tL sP lP kd fr hf to m sm g1 g2 g3 g4 g5 g6 o k f num n n2 hd hn h1 h2 J
    obtain ⟨n, rfl⟩ : ∃ q, n = q + 1 := ⟨n - 1, by omega⟩
    obtain ⟨n2, rfl⟩ : ∃ q, n2 = q + 1 := ⟨n2 - 1, by omega⟩
    have hnc := J.1.2.2
    have hp0 := J.2.1.1
    show ∃ x y, zf_LawReader_read_l0_b len T (zf_LawReader_read_l0 len T n) (nc - 1) p 0 c.1 nc tS tL sP lP c.2.1 c.2.2 kd fr hf to = some x ∧ zf_M_law_l0_b len M (zf_M_law_l0 len M n2) 1 p m sm o k f num g1 g2 g3 g4 g5 g6 = some y ∧ _
    unfold zf_LawReader_read_l0_b zf_M_law_l0_b
    rw [if_pos (show nc - 1 < 14 by omega), if_pos rfl, if_neg (show ¬ (1 : Int) = 0 by decide)]
    by_cases hp : p < len
    · rw [if_pos hp, if_pos hp, ze_skip hp0 (by omega) (by omega), zl_b]
      unfold zf_M_takes
      rw [ze_here hT hp0 (by omega), zl_b, zi_w_id (x := nc - 1 + 1) (by omega) (by omega)]
      by_cases h59 : yp_pk T len p = 59
      · rw [if_pos h59, if_pos h59, zl_b, zi_w_id (x := p + 1) (by omega) (by omega), if_neg (show ¬ (1 : Int) = 0 by decide)]
        obtain ⟨j1, j2, ⟨j6, j7⟩, j8, j9, j10, j11, j12⟩ := J
        obtain ⟨x, y, ex, ey, hxy⟩ := yl_step (o := o) (k := k) (f := f) (num := num) (g4 := g4) hT hl (p := p + 1) ⟨j1, ⟨by omega, by omega⟩, ⟨j6, by omega⟩, j8, j9, j10, j11, j12⟩
        show ∃ x y, ((zf_LawReader_readClause 0 (p + 1) len nc c.1 tL lP tS sP T c.2.1 c.2.2 kd fr hf to).bind _) = some x ∧ ((zf_M_readsClause (p + 1) len sm m o k f num M g1 g2 g3 g4 g5 g6).bind _) = some y ∧ _
        rw [ex, zl_b, ey, zl_b]
        rcases hxy with ⟨q1, q2, q3⟩ | ⟨q1, q2, q3, q4, q5, L2, q6⟩
        · obtain ⟨n, rfl⟩ : ∃ q, n = q + 1 := ⟨n - 1, by omega⟩
          obtain ⟨n2, rfl⟩ : ∃ q, n2 = q + 1 := ⟨n2 - 1, by omega⟩
          rw [yx_readf (by omega), if_pos q2, ym_lawf]
          exact ⟨_, _, rfl, rfl, Or.inl ⟨q1, rfl, q3⟩⟩
        · rw [if_neg (show ¬ y.1 = 0 by omega), q1, q3, show nc - 1 + 1 = x.2.2.1 - 1 by omega]
          exact ih n n2 (by omega) (by omega) (by omega) (by omega) q6
      · rw [if_neg h59, if_neg h59, ze_wrong hp0 (by omega) (by decide) (by decide), zl_b]
        obtain ⟨n, rfl⟩ : ∃ q, n = q + 1 := ⟨n - 1, by omega⟩
        obtain ⟨n2, rfl⟩ : ∃ q, n2 = q + 1 := ⟨n2 - 1, by omega⟩
        have hne : (-1000 - p : Int) ≠ 0 := by omega
        have eC : zf_LawReader_readClause (-1000 - p) p len nc c.1 tL lP tS sP T c.2.1 c.2.2 kd fr hf to = some (-1000 - p, p, nc, c.1, tL, lP, tS, sP, c.2.1, c.2.2, kd, fr, hf, to) := by
          unfold zf_LawReader_readClause
          rw [if_neg hne]
        refine ⟨(p, -1000 - p, c.1, nc, tS, tL, sP, lP, c.2.1, c.2.2, kd, fr, hf, to), (0, p, m, sm, o, k, -1000 * 1 - p, num, g1, g2, g3, g4, g5, g6), ?_, ?_, Or.inl ⟨(by show -1000 - p < 0; omega), rfl, rfl⟩⟩
        · show ((zf_LawReader_readClause (-1000 - p) p len nc c.1 tL lP tS sP T c.2.1 c.2.2 kd fr hf to).bind _) = _
          rw [eC, zl_b]
          exact yx_readf hne
        · exact ym_lawf (len := len) (M := M) (n := n2)
    · rw [if_neg hp, if_neg hp]
      exact ⟨_, _, rfl, rfl, Or.inr ⟨rfl, rfl, L, J, hn⟩⟩
end YLJ
end
section
/-! law on both sides. -/
/-- a law, as both sides hold it -/
def yl_R (L : zLW) (K V : Int → Int) (nc tS tL sP lP : Int) (kd fr hf to : Int → Int) (mc : Int) (C mk mf mh mt : Int → Int) : Prop :=
  (nc = L.1 ∧ 0 ≤ nc ∧ nc ≤ 14 ∧ mc = nc) ∧ (∀ q, 0 ≤ q → q < nc → kd q = L.2.1 q ∧ mk q = L.2.1 q ∧ mf q = fr q ∧ mh q = hf q ∧ mt q = to q) ∧
  ∃ st, st ≤ 200 ∧ yl_cl K V st L fr hf to ∧ yl_fl K V L hf to tS tL sP lP ∧ ∀ j, 0 ≤ j → j < st → C j = 1048576 * zd_op (K j) + V j
section YLO
variable {T M : Int → Int}
theorem ze_law_l1 {m : Int} {g : Int → Int} (m2 : m ≤ 220) : ∀ (d : Nat) (j : Int) (h : Int → Int) (n : Nat), m - j ≤ d → 0 ≤ j → d < n → ∃ h2, zf_M_law_l1 m g n j h = some h2 ∧ (∀ i, j ≤ i → i < m → h2 i = g i) ∧ ∀ i, i < j → h2 i = h i := by
  intro d
  induction d with
  | zero =>
    intro j h n hd j0 hn
    obtain ⟨n, rfl⟩ : ∃ q, n = q + 1 := ⟨n - 1, by omega⟩
    refine ⟨h, ?_, fun i a b => by omega, fun _ _ => rfl⟩
    show zf_M_law_l1_b m g (zf_M_law_l1 m g n) j h = _
    unfold zf_M_law_l1_b
    rw [if_neg (by omega)]
  | succ d ih =>
    intro j h n hd j0 hn
    obtain ⟨n, rfl⟩ : ∃ q, n = q + 1 := ⟨n - 1, by omega⟩
    show ∃ h2, zf_M_law_l1_b m g (zf_M_law_l1 m g n) j h = some h2 ∧ _
    unfold zf_M_law_l1_b
    by_cases hj : j < m
    · rw [if_pos hj, zl_ci j0 (by omega), zi_w_id (x := j + 1) (by omega) (by omega)]
      obtain ⟨h2, e, a, b⟩ := ih (j + 1) (zv_up h j (g j)) n (by omega) (by omega) (by omega)
      refine ⟨h2, e, fun i i1 i2 => ?_, fun i i1 => ?_⟩
      · by_cases ei : i = j
        · subst ei
          rw [b i (by omega), zv_up_s]
        · exact a i (by omega) i2
      · rw [b i (by omega), zv_up_n (by omega)]
    · rw [if_neg hj]
      exact ⟨h, rfl, fun i a b => by omega, fun _ _ => rfl⟩
theorem ze_law_l2 {m : Int} {a1 a2 a3 a4 : Int → Int} (m2 : m ≤ 14) : ∀ (d : Nat) (j : Int) (h1 h2 h3 h4 : Int → Int) (n : Nat), m - j ≤ d → 0 ≤ j → d < n → ∃ o, zf_M_law_l2 m a1 a2 a3 a4 n j h1 h2 h3 h4 = some o ∧ (∀ i, j ≤ i → i < m → o.1 i = a1 i ∧ o.2.1 i = a2 i ∧ o.2.2.1 i = a3 i ∧ o.2.2.2 i = a4 i) ∧ ∀ i, i < j → o.1 i = h1 i ∧ o.2.1 i = h2 i ∧ o.2.2.1 i = h3 i ∧ o.2.2.2 i = h4 i := by
  intro d
  induction d with
  | zero =>
    intro j h1 h2 h3 h4 n hd j0 hn
    obtain ⟨n, rfl⟩ : ∃ q, n = q + 1 := ⟨n - 1, by omega⟩
    refine ⟨(h1, h2, h3, h4), ?_, fun i a b => by omega, fun _ _ => ⟨rfl, rfl, rfl, rfl⟩⟩
    show zf_M_law_l2_b m a1 a2 a3 a4 (zf_M_law_l2 m a1 a2 a3 a4 n) j h1 h2 h3 h4 = _
    unfold zf_M_law_l2_b
    rw [if_neg (by omega)]
  | succ d ih =>
    intro j h1 h2 h3 h4 n hd j0 hn
    obtain ⟨n, rfl⟩ : ∃ q, n = q + 1 := ⟨n - 1, by omega⟩
    show ∃ o, zf_M_law_l2_b m a1 a2 a3 a4 (zf_M_law_l2 m a1 a2 a3 a4 n) j h1 h2 h3 h4 = some o ∧ _
    unfold zf_M_law_l2_b
    by_cases hj : j < m
    · rw [if_pos hj, zl_ci j0 (by omega), zi_w_id (x := j + 1) (by omega) (by omega)]
      obtain ⟨o, e, a, b⟩ := ih (j + 1) (zv_up h1 j (a1 j)) (zv_up h2 j (a2 j)) (zv_up h3 j (a3 j)) (zv_up h4 j (a4 j)) n (by omega) (by omega) (by omega)
      refine ⟨o, e, fun i i1 i2 => ?_, fun i i1 => ?_⟩
      · by_cases ei : i = j
        · subst ei
          obtain ⟨b1, b2, b3, b4⟩ := b i (by omega)
          rw [b1, b2, b3, b4, zv_up_s, zv_up_s, zv_up_s, zv_up_s]
          exact ⟨rfl, rfl, rfl, rfl⟩
        · exact a i (by omega) i2
      · obtain ⟨b1, b2, b3, b4⟩ := b i (by omega)
        rw [b1, b2, b3, b4, zv_up_n (by omega), zv_up_n (by omega), zv_up_n (by omega), zv_up_n (by omega)]
        exact ⟨rfl, rfl, rfl, rfl⟩
    · rw [if_neg hj]
      exact ⟨_, rfl, fun i a b => by omega, fun _ _ => ⟨rfl, rfl, rfl, rfl⟩⟩
abbrev zXL : Type := Int × Int × Int × Int × Int × Int × Int × Int × Int × Int × Int × (Int → Int) × (Int → Int) × (Int → Int) × (Int → Int) × (Int → Int) × (Int → Int) × Nat × Nat
abbrev zML : Type := Int × Int × Int × Int × Int × Int × Int × Int × Int × Int × Int × (Int → Int) × (Int → Int) × (Int → Int) × (Int → Int) × (Int → Int) × (Int → Int) × (Int → Int) × (Int → Int) × (Int → Int) × (Int → Int) × (Int → Int)
theorem yl_law (hT : yk_T T M) {x s f2 f3 f4 f6 f7 f8 f9 f10 f11 : Int} {g1 g2 g3 g4 g5 g6 : Int → Int} {m1 m2 m3 m4 m5 m6 m7 m8 m9 : Int} {a1 a2 a3 a4 a5 a6 a7 a8 a9 a10 a11 : Int → Int} :
    ∃ (X : zXL) (Y : zML), zf_X_law x s f2 f3 f4 f6 f7 f8 f9 f10 f11 T g1 g2 g3 g4 g5 g6 = some X ∧ zf_M_law x s m1 m2 m3 m4 m5 m6 m7 m8 m9 M a1 a2 a3 a4 a5 a6 a7 a8 a9 a10 a11 = some Y ∧ X.1 = Y.1 ∧ X.2.1 = Y.2.1 ∧ (X.2.1 = s ∨ X.2.1 = 0) ∧
      ((X.2.2.2.2.2.2.2.2.2.2.2.2.2.2.2.2.2.2 = 11 ∧ X.2.2.2.2.2.2.2.2.2.2.2.2.2.2.2.2.2.1 = 3 ∧ Y.2.2.2.2.2.2.2.2.2.2.1 = m9 ∧ Y.2.2.2.2.2.2.2.2.2.2.2.2.2.2.2.2.2 = (a7, a8, a9, a10, a11)) ∨
       (X.2.2.2.2.2.2.2.2.2.2.2.2.2.2.2.2.2.2 = 3 ∧ X.2.2.2.2.2.2.2.2.2.2.2.2.2.2.2.2.2.1 = 11 ∧ ∃ L, yl_R L X.2.2.2.2.2.2.2.2.2.2.2.1 X.2.2.2.2.2.2.2.2.2.2.2.2.1 X.2.2.2.2.2.2.1 X.2.2.2.2.2.2.2.1 X.2.2.2.2.2.2.2.2.1 X.2.2.2.2.2.2.2.2.2.1 X.2.2.2.2.2.2.2.2.2.2.1 X.2.2.2.2.2.2.2.2.2.2.2.2.2.1 X.2.2.2.2.2.2.2.2.2.2.2.2.2.2.1 X.2.2.2.2.2.2.2.2.2.2.2.2.2.2.2.1 X.2.2.2.2.2.2.2.2.2.2.2.2.2.2.2.2.1 Y.2.2.2.2.2.2.2.2.2.2.1 Y.2.2.2.2.2.2.2.2.2.2.2.2.2.2.2.2.2.1 Y.2.2.2.2.2.2.2.2.2.2.2.2.2.2.2.2.2.2.1 Y.2.2.2.2.2.2.2.2.2.2.2.2.2.2.2.2.2.2.2.1 Y.2.2.2.2.2.2.2.2.2.2.2.2.2.2.2.2.2.2.2.2.1 Y.2.2.2.2.2.2.2.2.2.2.2.2.2.2.2.2.2.2.2.2.2)) := by
  have fu : 1000000 < zi_fu := by decide
  unfold zf_X_law zf_M_law
  rw [ze_X_isWithin, ze_M_in, zl_b, zl_b]
  by_cases q1 : zs_in x 1 200 = 0
  · rw [if_pos q1, if_pos q1]
    exact ⟨_, _, rfl, rfl, rfl, rfl, Or.inl rfl, Or.inl ⟨rfl, rfl, rfl, rfl⟩⟩
  rw [if_neg q1, if_neg q1]
  obtain ⟨x1, x2⟩ := zs_in_ne q1
  unfold zf_Tape_take
  by_cases q2 : s < x
  · rw [if_pos q2, if_pos q2, zl_b, if_pos rfl]
    exact ⟨_, _, rfl, rfl, rfl, rfl, Or.inl rfl, Or.inl ⟨rfl, rfl, rfl, rfl⟩⟩
  rw [if_neg q2, if_neg q2, zl_b, if_neg (show ¬ (1 : Int) = 0 by decide)]
  unfold zf_LawReader_read zf_Law_clear
  rw [ze_Math_min, zl_b, zl_b, if_neg (show ¬ (220 : Int) < x by omega)]
  have J0 : yl_J x ((0, (fun _ => 0), (fun _ _ => none), (fun _ _ => none)) : zLW) 0 (0, g1, g2) 0 0 0 0 0 g3 g4 g5 g6 0 0 a1 a2 a3 a5 a6 := by
    have hz : ∀ (P : Prop) (q : Int), 0 ≤ q → q < 0 → P := fun P q a b => absurd a (by omega)
    refine ⟨⟨rfl, by decide, by decide⟩, ⟨by decide, by omega⟩, ⟨by show (0 : Int) ≤ 0; decide, by show (0 : Int) ≤ 0; decide⟩, fun q a b => hz _ q a b, fun q a b => hz _ q a b, ⟨⟨Or.inr ⟨rfl, fun q a b => hz _ q a b⟩, Or.inr ⟨rfl, fun q a b => hz _ q a b⟩⟩, ⟨fun _ q a b => hz _ q a b, fun _ q a b => hz _ q a b, fun _ q a b => hz _ q a b⟩, fun _ q a b => hz _ q a b, fun _ q a b => hz _ q a b⟩, ⟨⟨rfl, by show (0 : Int) ≤ 0; decide⟩, fun q a b => hz _ q a b⟩, rfl⟩
  obtain ⟨X, Y, eX, eY, hXY⟩ := yl_step (o := m5) (k := m6) (f := m7) (num := m8) (g4 := a4) hT x2 J0
  have eX : zf_LawReader_readClause 0 0 x 0 0 0 0 0 0 T g1 g2 g3 g4 g5 g6 = some X := eX
  show ∃ X Y, (((zf_LawReader_readClause 0 0 x 0 0 0 0 0 0 T g1 g2 g3 g4 g5 g6).bind _).bind _) = some X ∧ ((zf_M_readsClause 0 x 0 0 m5 m6 m7 m8 M a1 a2 a3 a4 a5 a6).bind _) = some Y ∧ _
  rw [eX, eY, zl_b, zl_b]
  rcases hXY with ⟨y1, y2, y3⟩ | ⟨y1, y2, y3, y4, y5, L2, y6⟩
  · have hne : X.1 ≠ 0 := by omega
    have e1 : zf_LawReader_read_l0 x T zi_fu 0 X.2.1 X.1 X.2.2.2.1 X.2.2.1 X.2.2.2.2.2.2.1 X.2.2.2.2.1 X.2.2.2.2.2.2.2.1 X.2.2.2.2.2.1 X.2.2.2.2.2.2.2.2.1 X.2.2.2.2.2.2.2.2.2.1 X.2.2.2.2.2.2.2.2.2.2.1 X.2.2.2.2.2.2.2.2.2.2.2.1 X.2.2.2.2.2.2.2.2.2.2.2.2.1 X.2.2.2.2.2.2.2.2.2.2.2.2.2 = _ := yx_readf (n := zi_fu - 1) hne
    rw [e1, zl_b, if_neg hne, zl_b, if_neg (show ¬ 0 < X.1 by omega), y2]
    have e2 : zf_M_law_l0 x M zi_fu 0 Y.2.1 Y.2.2.2.1 Y.2.2.1 Y.2.2.2.2.1 Y.2.2.2.2.2.1 Y.2.2.2.2.2.2.1 Y.2.2.2.2.2.2.2.1 Y.2.2.2.2.2.2.2.2.1 Y.2.2.2.2.2.2.2.2.2.1 Y.2.2.2.2.2.2.2.2.2.2.1 Y.2.2.2.2.2.2.2.2.2.2.2.1 Y.2.2.2.2.2.2.2.2.2.2.2.2.1 Y.2.2.2.2.2.2.2.2.2.2.2.2.2 = _ := ym_lawf (n := zi_fu - 1)
    rw [e2, zl_b, if_pos rfl]
    exact ⟨_, _, rfl, rfl, y3.symm, rfl, Or.inr rfl, Or.inl ⟨rfl, rfl, rfl, rfl⟩⟩
  · have hy3 : Y.2.1 = X.2.1 := y3
    obtain ⟨X2, Y2, eX2, eY2, h2⟩ := yl_loop (g4 := Y.2.2.2.2.2.2.2.2.2.2.2.1) (o := Y.2.2.2.2.1) (k := Y.2.2.2.2.2.1) (f := Y.2.2.2.2.2.2.1) (num := Y.2.2.2.2.2.2.2.1) hT x2 200 zi_fu zi_fu (by omega) (by omega) (by omega) (by omega) y6
    have y5 : X.2.2.1 = 0 + 1 := y5
    rw [show X.2.2.1 - 1 = 0 by omega] at eX2
    have eX2 : zf_LawReader_read_l0 x T zi_fu 0 X.2.1 0 X.2.2.2.1 X.2.2.1 X.2.2.2.2.2.2.1 X.2.2.2.2.1 X.2.2.2.2.2.2.2.1 X.2.2.2.2.2.1 X.2.2.2.2.2.2.2.2.1 X.2.2.2.2.2.2.2.2.2.1 X.2.2.2.2.2.2.2.2.2.2.1 X.2.2.2.2.2.2.2.2.2.2.2.1 X.2.2.2.2.2.2.2.2.2.2.2.2.1 X.2.2.2.2.2.2.2.2.2.2.2.2.2 = some X2 := eX2
    rw [y1, eX2, zl_b, y2, hy3, eY2, zl_b]
    rcases h2 with ⟨u1, u2, u3⟩ | ⟨u1, u2, L3, u3, u4⟩
    · rw [if_neg (show ¬ X2.2.1 = 0 by omega), zl_b, if_neg (show ¬ 0 < X2.2.1 by omega), if_pos u2]
      exact ⟨_, _, rfl, rfl, u3.symm, rfl, Or.inr rfl, Or.inl ⟨rfl, rfl, rfl, rfl⟩⟩
    · obtain ⟨⟨j1, j2, j3⟩, ⟨j4, j5⟩, ⟨j6, j7⟩, j8, j9, j10, j11, j12⟩ := u3
      have j6 : 0 ≤ X2.2.2.1 := j6
      have j7 : X2.2.2.1 ≤ X2.1 := j7
      obtain ⟨⟨k1, k2⟩, k3⟩ := j11
      have k1 : Y2.2.2.1 = X2.2.2.1 := k1
      rw [if_pos u1, zl_b, if_pos (show 0 < X2.2.2.2.1 by omega), if_neg (show ¬ Y2.1 = 0 by omega)]
      obtain ⟨h7, e7, b7, -⟩ := ze_law_l1 (m := Y2.2.2.1) (g := Y2.2.2.2.2.2.2.2.2.2.2.2.2.1) (by omega) 220 0 a7 zi_fu (by omega) (by decide) (by omega)
      obtain ⟨h8, e8, b8, -⟩ := ze_law_l2 (m := Y2.2.2.2.1) (a1 := Y2.2.2.2.2.2.2.2.2.1) (a2 := Y2.2.2.2.2.2.2.2.2.2.1) (a3 := Y2.2.2.2.2.2.2.2.2.2.2.1) (a4 := Y2.2.2.2.2.2.2.2.2.2.2.2.2.2) (by omega) 220 0 a8 a9 a10 a11 zi_fu (by omega) (by decide) (by omega)
      rw [e7, zl_b, e8, zl_b]
      refine ⟨_, _, rfl, rfl, j12.symm, rfl, Or.inr rfl, Or.inr ⟨rfl, rfl, L3, ⟨j1, j2, j3, j12⟩, fun q q1 q2 => ?_, X2.2.2.1, by omega, j9, j10, fun j i1 i2 => ?_⟩⟩
      · obtain ⟨c1, c2, c3, c4, c5⟩ := j8 q q1 q2
        have q2 : q < X2.2.2.2.1 := q2
        obtain ⟨d1, d2, d3, d4⟩ := b8 q q1 (by omega)
        exact ⟨c1, d1.trans c2, d2.trans c3, d3.trans c4, d4.trans c5⟩
      · exact (b7 j i1 (by omega)).trans (k3 j i1 i2).1
end YLO
end
section
/-! What a law comes to: on both sides the same. -/
def yl_anyF (L : zLW) (k : Int) (lt : Int → Int) : Nat → Int → Bool
  | 0, _ => false
  | m + 1, q => if L.2.1 q = k ∧ L.2.2.1 q lt = some 1 then true else yl_anyF L k lt m (q + 1)
def yl_any (L : zLW) (k : Int) (lt : Int → Int) : Bool := yl_anyF L k lt L.1.toNat 0
def yl_clm (high : Int) (r : Option Int) : Int := match r with
  | none => 0
  | some v => if v < 0 then 0 else if high < v then high else v
def yl_amtF (L : zLW) (k high : Int) (lt : Int → Int) : Nat → Int → Int
  | 0, _ => 0
  | m + 1, q => if L.2.1 q = k ∧ L.2.2.1 q lt = some 1 then yl_clm high (L.2.2.2 q lt) else yl_amtF L k high lt m (q + 1)
def yl_amt (L : zLW) (k high : Int) (lt : Int → Int) : Int := yl_amtF L k high lt L.1.toNat 0
section YLA
variable {L : zLW} {K V kd fr hf to C mk mf mh mt : Int → Int} {nc tS tL sP lP mc : Int} {lt : Int → Int}
theorem yl_run (R : yl_R L K V nc tS tL sP lP kd fr hf to mc C mk mf mh mt) {q : Int} (q1 : 0 ≤ q) (q2 : q < nc) :
    (∀ lt v, L.2.2.1 q lt = some v → v = 0 ∨ v = 1) ∧ (∀ f0 S lt, ∃ S', zf_Law_run (hf q) (to q) f0 K S V lt = some ((match L.2.2.1 q lt with | none => ((0 : Int), f0) | some v => ((1 : Int), v)).1, (match L.2.2.1 q lt with | none => ((0 : Int), f0) | some v => ((1 : Int), v)).2, S')) ∧ (∀ S lt, ∃ S', zf_M_comesTo (hf q) (to q) C S lt = some ((match L.2.2.1 q lt with | none => (0 : Int) | some v => v), S')) ∧
    (yl_am (L.2.1 q) → (∀ f0 S lt, ∃ S', zf_Law_run (fr q) (hf q) f0 K S V lt = some ((match L.2.2.2 q lt with | none => ((0 : Int), f0) | some v => ((1 : Int), v)).1, (match L.2.2.2 q lt with | none => ((0 : Int), f0) | some v => ((1 : Int), v)).2, S')) ∧ ∀ S lt, ∃ S', zf_M_comesTo (fr q) (hf q) C S lt = some ((match L.2.2.2 q lt with | none => (0 : Int) | some v => v), S')) := by
  obtain ⟨⟨r1, r2, r3, r4⟩, r5, st, r6, r7, r8, r9⟩ := R
  obtain ⟨a1, ⟨a2, a3, a4, a5⟩, a6, a7⟩ := r7 q q1 (by omega)
  have ag : ∀ a b, 0 ≤ a → b ≤ st → zd_ag K V a b K V C := fun a b a0 b0 j j1 j2 => ⟨rfl, rfl, r9 j (by omega) (by omega)⟩
  have z1 := fun lt => zd_run a6 (by decide) (by omega) (ag _ _ (by omega) a5) lt
  refine ⟨a6.2.1 rfl, fun f0 S lt => (z1 lt).1 f0 S, fun S lt => (z1 lt).2 S, fun ha => ?_⟩
  have z2 := fun lt => zd_run (a7 ha) (by decide) (by omega) (ag _ _ a2 (by omega)) lt
  exact ⟨fun f0 S lt => (z2 lt).1 f0 S, fun S lt => (z2 lt).2 S⟩
theorem yl_anyX_l (R : yl_R L K V nc tS tL sP lP kd fr hf to mc C mk mf mh mt) {k : Int} : ∀ (d : Nat) (q f1 : Int) (S : Int → Int) (n : Nat), q + d = nc → 0 ≤ q → d < n →
    ∃ a S', zf_Law_anyHolds_l0 k nc kd hf to K V lt n q f1 S = some (if yl_anyF L k lt d q = true then .inr (1, a, S') else .inl (a, S')) := by
  intro d
  induction d with
  | zero =>
    intro q f1 S n e q0 hn
    obtain ⟨n, rfl⟩ : ∃ z, n = z + 1 := ⟨n - 1, by omega⟩
    refine ⟨f1, S, ?_⟩
    show zf_Law_anyHolds_l0_b k nc kd hf to K V lt (zf_Law_anyHolds_l0 k nc kd hf to K V lt n) q f1 S = _
    unfold zf_Law_anyHolds_l0_b
    rw [if_neg (by omega), if_neg (show ¬ yl_anyF L k lt 0 q = true by simp [yl_anyF])]
  | succ d ih =>
    intro q f1 S n e q0 hn
    obtain ⟨n, rfl⟩ : ∃ z, n = z + 1 := ⟨n - 1, by omega⟩
    have hnc := R.1
    obtain ⟨k1, -⟩ := R.2.1 q q0 (by omega)
    obtain ⟨c1, c2, -, -⟩ := yl_run R q0 (show q < nc by omega)
    show ∃ a S', zf_Law_anyHolds_l0_b k nc kd hf to K V lt (zf_Law_anyHolds_l0 k nc kd hf to K V lt n) q f1 S = _
    unfold zf_Law_anyHolds_l0_b
    rw [if_pos (by omega), zl_ci q0 (by omega), k1, zi_w_id (x := q + 1) (by omega) (by omega)]
    have next : ¬ (L.2.1 q = k ∧ L.2.2.1 q lt = some 1) → ∀ f S, ∃ a S', zf_Law_anyHolds_l0 k nc kd hf to K V lt n (q + 1) f S = some (if yl_anyF L k lt (d + 1) q = true then .inr (1, a, S') else .inl (a, S')) := by
      intro hno f S
      rw [show yl_anyF L k lt (d + 1) q = yl_anyF L k lt d (q + 1) from if_neg hno]
      exact ih (q + 1) f S n (by omega) (by omega) (by omega)
    by_cases hk : L.2.1 q = k
    · rw [if_pos hk]
      obtain ⟨S', e1⟩ := c2 f1 S lt
      rw [e1, zl_b]
      cases hr : L.2.2.1 q lt with
      | none =>
        dsimp only
        rw [if_pos rfl]
        exact next (fun h => by rw [hr] at h; cases h.2) _ _
      | some v =>
        dsimp only
        rw [if_neg (show ¬ (1 : Int) = 0 by decide)]
        rcases c1 lt v hr with h | h
        · subst h
          rw [if_pos rfl]
          exact next (fun h => by rw [hr] at h; cases h.2) _ _
        · subst h
          rw [if_neg (show ¬ (1 : Int) = 0 by decide), show yl_anyF L k lt (d + 1) q = true from if_pos ⟨hk, hr⟩]
          exact ⟨_, _, rfl⟩
    · rw [if_neg hk]
      exact next (fun h => hk h.1) _ _
theorem yl_anyX (R : yl_R L K V nc tS tL sP lP kd fr hf to mc C mk mf mh mt) {k f1 : Int} {S : Int → Int} : ∃ a S', zf_Law_anyHolds k nc f1 kd hf to K S V lt = some ((if yl_any L k lt = true then 1 else 0), a, S') := by
  have hnc := R.1
  obtain ⟨a, S', e⟩ := yl_anyX_l (lt := lt) (k := k) R L.1.toNat 0 f1 S zi_fu (by omega) (by decide) (by have : 1000 < zi_fu := (by decide); omega)
  refine ⟨a, S', ?_⟩
  unfold zf_Law_anyHolds
  rw [e, zl_b]
  unfold yl_any
  by_cases h : yl_anyF L k lt L.1.toNat 0 = true
  · rw [if_pos h, if_pos h]; rfl
  · rw [if_neg h, if_neg h]; rfl
theorem yl_anyM_l (R : yl_R L K V nc tS tL sP lP kd fr hf to mc C mk mf mh mt) {k : Int} : ∀ (d : Nat) (q : Int) (S : Int → Int) (n : Nat), q + d = nc → 0 ≤ q → d < n →
    ∃ S', zf_M_anyOf_l0 k mc mk mh mt C lt n q S = some (if yl_anyF L k lt d q = true then .inr (1, S') else .inl S') := by
  intro d
  induction d with
  | zero =>
    intro q S n e q0 hn
    obtain ⟨n, rfl⟩ : ∃ z, n = z + 1 := ⟨n - 1, by omega⟩
    have hnc := R.1
    refine ⟨S, ?_⟩
    show zf_M_anyOf_l0_b k mc mk mh mt C lt (zf_M_anyOf_l0 k mc mk mh mt C lt n) q S = _
    unfold zf_M_anyOf_l0_b
    rw [if_neg (by omega), if_neg (show ¬ yl_anyF L k lt 0 q = true by simp [yl_anyF])]
  | succ d ih =>
    intro q S n e q0 hn
    obtain ⟨n, rfl⟩ : ∃ z, n = z + 1 := ⟨n - 1, by omega⟩
    have hnc := R.1
    obtain ⟨-, k1, -, k3, k4⟩ := R.2.1 q q0 (by omega)
    obtain ⟨c1, -, c2, -⟩ := yl_run R q0 (show q < nc by omega)
    show ∃ S', zf_M_anyOf_l0_b k mc mk mh mt C lt (zf_M_anyOf_l0 k mc mk mh mt C lt n) q S = _
    unfold zf_M_anyOf_l0_b
    rw [if_pos (by omega), zl_ci q0 (by omega), k1, k3, k4, zi_w_id (x := q + 1) (by omega) (by omega)]
    have next : ¬ (L.2.1 q = k ∧ L.2.2.1 q lt = some 1) → ∀ S, ∃ S', zf_M_anyOf_l0 k mc mk mh mt C lt n (q + 1) S = some (if yl_anyF L k lt (d + 1) q = true then .inr (1, S') else .inl S') := by
      intro hno S
      rw [show yl_anyF L k lt (d + 1) q = yl_anyF L k lt d (q + 1) from if_neg hno]
      exact ih (q + 1) S n (by omega) (by omega) (by omega)
    by_cases hk : L.2.1 q = k
    · rw [if_pos hk]
      obtain ⟨S', e1⟩ := c2 S lt
      rw [e1, zl_b]
      cases hr : L.2.2.1 q lt with
      | none =>
        dsimp only
        rw [if_neg (show ¬ (0 : Int) = 1 by decide)]
        exact next (fun h => by rw [hr] at h; cases h.2) _
      | some v =>
        dsimp only
        rcases c1 lt v hr with h | h
        · subst h
          rw [if_neg (show ¬ (0 : Int) = 1 by decide)]
          exact next (fun h => by rw [hr] at h; cases h.2) _
        · subst h
          rw [if_pos rfl, show yl_anyF L k lt (d + 1) q = true from if_pos ⟨hk, hr⟩]
          exact ⟨_, rfl⟩
    · rw [if_neg hk]
      exact next (fun h => hk h.1) _
theorem yl_anyM (R : yl_R L K V nc tS tL sP lP kd fr hf to mc C mk mf mh mt) {k : Int} {S : Int → Int} : ∃ S', zf_M_anyOf k mc mk mh mt C S lt = some ((if yl_any L k lt = true then 1 else 0), S') := by
  have hnc := R.1
  obtain ⟨S', e⟩ := yl_anyM_l (lt := lt) (k := k) R L.1.toNat 0 S zi_fu (by omega) (by decide) (by have : 1000 < zi_fu := (by decide); omega)
  refine ⟨S', ?_⟩
  unfold zf_M_anyOf
  rw [e, zl_b]
  unfold yl_any
  by_cases h : yl_anyF L k lt L.1.toNat 0 = true
  · rw [if_pos h, if_pos h]; rfl
  · rw [if_neg h, if_neg h]; rfl
theorem yl_amtX_l (R : yl_R L K V nc tS tL sP lP kd fr hf to mc C mk mf mh mt) {k high : Int} (hk0 : yl_am k) (hh : 0 ≤ high) : ∀ (d : Nat) (q f1 : Int) (S : Int → Int) (n : Nat), q + d = nc → 0 ≤ q → d < n →
    ∃ a S', (zf_Law_amount_l0 k high nc kd hf to K V lt fr n q f1 S = some (.inr (yl_amtF L k high lt d q, a, S'))) ∨ (zf_Law_amount_l0 k high nc kd hf to K V lt fr n q f1 S = some (.inl (a, S')) ∧ yl_amtF L k high lt d q = 0) := by
  intro d
  induction d with
  | zero =>
    intro q f1 S n e q0 hn
    obtain ⟨n, rfl⟩ : ∃ z, n = z + 1 := ⟨n - 1, by omega⟩
    refine ⟨f1, S, Or.inr ⟨?_, rfl⟩⟩
    show zf_Law_amount_l0_b k high nc kd hf to K V lt fr (zf_Law_amount_l0 k high nc kd hf to K V lt fr n) q f1 S = _
    unfold zf_Law_amount_l0_b
    rw [if_neg (by omega)]
  | succ d ih =>
    intro q f1 S n e q0 hn
    obtain ⟨n, rfl⟩ : ∃ z, n = z + 1 := ⟨n - 1, by omega⟩
    have hnc := R.1
    obtain ⟨k1, -⟩ := R.2.1 q q0 (by omega)
    obtain ⟨c1, c2, -, c4⟩ := yl_run R q0 (show q < nc by omega)
    show ∃ a S', (zf_Law_amount_l0_b k high nc kd hf to K V lt fr (zf_Law_amount_l0 k high nc kd hf to K V lt fr n) q f1 S = _) ∨ (zf_Law_amount_l0_b k high nc kd hf to K V lt fr (zf_Law_amount_l0 k high nc kd hf to K V lt fr n) q f1 S = _ ∧ _)
    unfold zf_Law_amount_l0_b
    rw [if_pos (by omega), zl_ci q0 (by omega), k1, zi_w_id (x := q + 1) (by omega) (by omega)]
    have next : ¬ (L.2.1 q = k ∧ L.2.2.1 q lt = some 1) → ∀ f S, ∃ a S', (zf_Law_amount_l0 k high nc kd hf to K V lt fr n (q + 1) f S = some (.inr (yl_amtF L k high lt (d + 1) q, a, S'))) ∨ (zf_Law_amount_l0 k high nc kd hf to K V lt fr n (q + 1) f S = some (.inl (a, S')) ∧ yl_amtF L k high lt (d + 1) q = 0) := by
      intro hno f S
      rw [show yl_amtF L k high lt (d + 1) q = yl_amtF L k high lt d (q + 1) from if_neg hno]
      exact ih (q + 1) f S n (by omega) (by omega) (by omega)
    by_cases hk : L.2.1 q = k
    · rw [if_pos hk]
      obtain ⟨S', e1⟩ := c2 f1 S lt
      rw [e1, zl_b]
      cases hr : L.2.2.1 q lt with
      | none =>
        dsimp only
        rw [if_pos rfl]
        exact next (fun h => by rw [hr] at h; cases h.2) _ _
      | some v =>
        dsimp only
        rw [if_neg (show ¬ (1 : Int) = 0 by decide)]
        rcases c1 lt v hr with h | h
        · subst h
          rw [if_pos rfl]
          exact next (fun h => by rw [hr] at h; cases h.2) _ _
        · subst h
          rw [if_neg (show ¬ (1 : Int) = 0 by decide), show yl_amtF L k high lt (d + 1) q = yl_clm high (L.2.2.2 q lt) from if_pos ⟨hk, hr⟩]
          obtain ⟨c4, -⟩ := c4 (by rw [hk]; exact hk0)
          obtain ⟨S2, e2⟩ := c4 1 S' lt
          rw [e2, zl_b]
          cases hr2 : L.2.2.2 q lt with
          | none =>
            dsimp only
            rw [if_pos rfl]
            exact ⟨_, _, Or.inl rfl⟩
          | some v =>
            dsimp only
            rw [if_neg (show ¬ (1 : Int) = 0 by decide), ze_Math_min, zl_b, ze_Math_max, zl_b]
            refine ⟨v, S2, Or.inl ?_⟩
            have : (if 0 < (if v < high then v else high) then (if v < high then v else high) else 0) = yl_clm high (some v) := by
              show _ = if v < 0 then 0 else if high < v then high else v
              (repeat' split) <;> omega
            rw [this]
    · rw [if_neg hk]
      exact next (fun h => hk h.1) _ _
theorem yl_amtX (R : yl_R L K V nc tS tL sP lP kd fr hf to mc C mk mf mh mt) {k high f1 : Int} {S : Int → Int} (hk0 : yl_am k) (hh : 0 ≤ high) : ∃ a S', zf_Law_amount k high nc f1 kd hf to K S V lt fr = some (yl_amt L k high lt, a, S') := by
  have hnc := R.1
  obtain ⟨a, S', e⟩ := yl_amtX_l (lt := lt) (k := k) R hk0 hh L.1.toNat 0 f1 S zi_fu (by omega) (by decide) (by have : 1000 < zi_fu := (by decide); omega)
  refine ⟨a, S', ?_⟩
  unfold zf_Law_amount yl_amt
  rcases e with e | ⟨e, e0⟩
  · rw [e, zl_b]; rfl
  · rw [e, zl_b, e0]; rfl
theorem yl_amtM_l (R : yl_R L K V nc tS tL sP lP kd fr hf to mc C mk mf mh mt) {k high : Int} (hk0 : yl_am k) (hh : 0 ≤ high) : ∀ (d : Nat) (q : Int) (S : Int → Int) (n : Nat), q + d = nc → 0 ≤ q → d < n →
    ∃ S', (zf_M_byLaw_l0 k high mc mk mh mt C lt mf n q S = some (.inr (yl_amtF L k high lt d q, S'))) ∨ (zf_M_byLaw_l0 k high mc mk mh mt C lt mf n q S = some (.inl S') ∧ yl_amtF L k high lt d q = 0) := by
  intro d
  induction d with
  | zero =>
    intro q S n e q0 hn
    obtain ⟨n, rfl⟩ : ∃ z, n = z + 1 := ⟨n - 1, by omega⟩
    have hnc := R.1
    refine ⟨S, Or.inr ⟨?_, rfl⟩⟩
    show zf_M_byLaw_l0_b k high mc mk mh mt C lt mf (zf_M_byLaw_l0 k high mc mk mh mt C lt mf n) q S = _
    unfold zf_M_byLaw_l0_b
    rw [if_neg (by omega)]
  | succ d ih =>
    intro q S n e q0 hn
    obtain ⟨n, rfl⟩ : ∃ z, n = z + 1 := ⟨n - 1, by omega⟩
    have hnc := R.1
    obtain ⟨-, k1, k2, k3, k4⟩ := R.2.1 q q0 (by omega)
    obtain ⟨c1, -, c2, c4⟩ := yl_run R q0 (show q < nc by omega)
    show ∃ S', (zf_M_byLaw_l0_b k high mc mk mh mt C lt mf (zf_M_byLaw_l0 k high mc mk mh mt C lt mf n) q S = _) ∨ (zf_M_byLaw_l0_b k high mc mk mh mt C lt mf (zf_M_byLaw_l0 k high mc mk mh mt C lt mf n) q S = _ ∧ _)
    unfold zf_M_byLaw_l0_b
    rw [if_pos (by omega), zl_ci q0 (by omega), k1, k2, k3, k4, zi_w_id (x := q + 1) (by omega) (by omega)]
    have next : ¬ (L.2.1 q = k ∧ L.2.2.1 q lt = some 1) → ∀ S, ∃ S', (zf_M_byLaw_l0 k high mc mk mh mt C lt mf n (q + 1) S = some (.inr (yl_amtF L k high lt (d + 1) q, S'))) ∨ (zf_M_byLaw_l0 k high mc mk mh mt C lt mf n (q + 1) S = some (.inl S') ∧ yl_amtF L k high lt (d + 1) q = 0) := by
      intro hno S
      rw [show yl_amtF L k high lt (d + 1) q = yl_amtF L k high lt d (q + 1) from if_neg hno]
      exact ih (q + 1) S n (by omega) (by omega) (by omega)
    by_cases hk : L.2.1 q = k
    · rw [if_pos hk]
      obtain ⟨S', e1⟩ := c2 S lt
      rw [e1, zl_b]
      cases hr : L.2.2.1 q lt with
      | none =>
        dsimp only
        rw [if_neg (show ¬ (0 : Int) = 1 by decide)]
        exact next (fun h => by rw [hr] at h; cases h.2) _
      | some v =>
        dsimp only
        rcases c1 lt v hr with h | h
        · subst h
          rw [if_neg (show ¬ (0 : Int) = 1 by decide)]
          exact next (fun h => by rw [hr] at h; cases h.2) _
        · subst h
          rw [if_pos rfl, show yl_amtF L k high lt (d + 1) q = yl_clm high (L.2.2.2 q lt) from if_pos ⟨hk, hr⟩]
          obtain ⟨-, c4⟩ := c4 (by rw [hk]; exact hk0)
          obtain ⟨S2, e2⟩ := c4 S' lt
          rw [e2, zl_b]
          cases hr2 : L.2.2.2 q lt with
          | none =>
            dsimp only
            rw [if_neg (show ¬ (0 : Int) < 0 by decide), if_neg (show ¬ high < 0 by omega)]
            exact ⟨_, Or.inl rfl⟩
          | some v =>
            refine ⟨S2, Or.inl ?_⟩
            dsimp only [yl_clm]
            (repeat' split) <;> rfl
    · rw [if_neg hk]
      exact next (fun h => hk h.1) _
theorem yl_amtM (R : yl_R L K V nc tS tL sP lP kd fr hf to mc C mk mf mh mt) {k high : Int} {S : Int → Int} (hk0 : yl_am k) (hh : 0 ≤ high) : ∃ S', zf_M_byLaw k high mc mk mh mt C S lt mf = some (yl_amt L k high lt, S') := by
  have hnc := R.1
  obtain ⟨S', e⟩ := yl_amtM_l (lt := lt) (k := k) R hk0 hh L.1.toNat 0 S zi_fu (by omega) (by decide) (by have : 1000 < zi_fu := (by decide); omega)
  refine ⟨S', ?_⟩
  unfold zf_M_byLaw yl_amt
  rcases e with e | ⟨e, e0⟩
  · rw [e, zl_b]; rfl
  · rw [e, zl_b, e0]; rfl
/-- letters that agree -/
theorem yl_any_c (R : yl_R L K V nc tS tL sP lP kd fr hf to mc C mk mf mh mt) {k : Int} {lt lt2 : Int → Int} (h : ∀ j, 0 ≤ j → j < 13 → lt j = lt2 j) : yl_any L k lt = yl_any L k lt2 := by
  obtain ⟨⟨r1, r2, r3, r4⟩, r5, st, r6, r7, r8, r9⟩ := R
  have : ∀ (d : Nat) (q : Int), q + d = L.1 → 0 ≤ q → yl_anyF L k lt d q = yl_anyF L k lt2 d q := by
    intro d
    induction d with
    | zero => intro q _ _; rfl
    | succ d ih =>
      intro q e q0
      obtain ⟨a1, -, a6, -⟩ := r7 q q0 (by omega)
      have e1 := a6.2.2.1 lt lt2 fun j _ _ _ v1 v2 => h _ v1 v2
      show (if _ then true else _) = (if _ then true else _)
      rw [e1, ih (q + 1) (by omega) (by omega)]
  exact this L.1.toNat 0 (by omega) (by decide)
theorem yl_amt_c (R : yl_R L K V nc tS tL sP lP kd fr hf to mc C mk mf mh mt) {k high : Int} (hk0 : yl_am k) {lt lt2 : Int → Int} (h : ∀ j, 0 ≤ j → j < 13 → lt j = lt2 j) : yl_amt L k high lt = yl_amt L k high lt2 := by
  obtain ⟨⟨r1, r2, r3, r4⟩, r5, st, r6, r7, r8, r9⟩ := R
  have : ∀ (d : Nat) (q : Int), q + d = L.1 → 0 ≤ q → yl_amtF L k high lt d q = yl_amtF L k high lt2 d q := by
    intro d
    induction d with
    | zero => intro q _ _; rfl
    | succ d ih =>
      intro q e q0
      obtain ⟨a1, -, a6, a7⟩ := r7 q q0 (by omega)
      have e1 := a6.2.2.1 lt lt2 fun j _ _ _ v1 v2 => h _ v1 v2
      show (if L.2.1 q = k ∧ L.2.2.1 q lt = some 1 then yl_clm high (L.2.2.2 q lt) else _) = (if L.2.1 q = k ∧ L.2.2.1 q lt2 = some 1 then yl_clm high (L.2.2.2 q lt2) else _)
      rw [e1, ih (q + 1) (by omega) (by omega)]
      by_cases hk : L.2.1 q = k
      · rw [(a7 (by rw [hk]; exact hk0)).2.2.1 lt lt2 fun j _ _ _ v1 v2 => h _ v1 v2]
      · rw [if_neg (fun h => hk h.1), if_neg (fun h => hk h.1)]
  exact this L.1.toNat 0 (by omega) (by decide)
/-- a law that does not ask for the place -/
theorem yl_any_v (R : yl_R L K V nc tS tL sP lP kd fr hf to mc C mk mf mh mt) (hs : sP = 0) {lt lt2 : Int → Int} (h : ∀ j, 0 ≤ j → j < 10 → lt j = lt2 j) : yl_any L 118 lt = yl_any L 118 lt2 := by
  obtain ⟨⟨r1, r2, r3, r4⟩, r5, st, r6, r7, ⟨-, ⟨b1, b2, b3⟩, -⟩, r9⟩ := R
  have : ∀ (d : Nat) (q : Int), q + d = L.1 → 0 ≤ q → yl_anyF L 118 lt d q = yl_anyF L 118 lt2 d q := by
    intro d
    induction d with
    | zero => intro q _ _; rfl
    | succ d ih =>
      intro q e q0
      obtain ⟨a1, -, a6, -⟩ := r7 q q0 (by omega)
      show (if L.2.1 q = 118 ∧ L.2.2.1 q lt = some 1 then true else _) = (if L.2.1 q = 118 ∧ L.2.2.1 q lt2 = some 1 then true else _)
      rw [ih (q + 1) (by omega) (by omega)]
      by_cases hk : L.2.1 q = 118
      · rw [a6.2.2.1 lt lt2 fun j j1 j2 j3 v1 v2 => h _ v1 (by
          have w1 := b1 hs q q0 (by omega) hk j j1 j2 j3
          have w2 := b2 hs q q0 (by omega) hk j j1 j2 j3
          have w3 := b3 hs q q0 (by omega) hk j j1 j2 j3
          omega)]
      · rw [if_neg (fun h => hk h.1), if_neg (fun h => hk h.1)]
  exact this L.1.toNat 0 (by omega) (by decide)
theorem yl_any_j (R : yl_R L K V nc tS tL sP lP kd fr hf to mc C mk mf mh mt) (hs : lP = 0) {lt lt2 : Int → Int} (h : ∀ j, 0 ≤ j → j < 13 → j ≠ 10 → j ≠ 11 → lt j = lt2 j) : yl_any L 106 lt = yl_any L 106 lt2 := by
  obtain ⟨⟨r1, r2, r3, r4⟩, r5, st, r6, r7, ⟨-, -, b1, b2⟩, r9⟩ := R
  have : ∀ (d : Nat) (q : Int), q + d = L.1 → 0 ≤ q → yl_anyF L 106 lt d q = yl_anyF L 106 lt2 d q := by
    intro d
    induction d with
    | zero => intro q _ _; rfl
    | succ d ih =>
      intro q e q0
      obtain ⟨a1, -, a6, -⟩ := r7 q q0 (by omega)
      show (if L.2.1 q = 106 ∧ L.2.2.1 q lt = some 1 then true else _) = (if L.2.1 q = 106 ∧ L.2.2.1 q lt2 = some 1 then true else _)
      rw [ih (q + 1) (by omega) (by omega)]
      by_cases hk : L.2.1 q = 106
      · rw [a6.2.2.1 lt lt2 fun j j1 j2 j3 v1 v2 => h _ v1 v2 (b1 hs q q0 (by omega) hk j j1 j2 j3) (b2 hs q q0 (by omega) hk j j1 j2 j3)]
      · rw [if_neg (fun h => hk h.1), if_neg (fun h => hk h.1)]
  exact this L.1.toNat 0 (by omega) (by decide)
/-- a kind that no clause is of -/
theorem yl_any_0 {k : Int} (h : ∀ q, 0 ≤ q → q < L.1 → L.2.1 q ≠ k) (h0 : 0 ≤ L.1) : yl_any L k lt = false := by
  have : ∀ (d : Nat) (q : Int), q + d = L.1 → 0 ≤ q → yl_anyF L k lt d q = false := by
    intro d
    induction d with
    | zero => intro q _ _; rfl
    | succ d ih =>
      intro q e q0
      show (if _ then true else _) = false
      rw [if_neg (fun hk => h q q0 (by omega) hk.1)]
      exact ih (q + 1) (by omega) (by omega)
  exact this L.1.toNat 0 (by omega) (by decide)
end YLA
end
section
/-! Sets as bits. -/
def zb (a : Int) (j : Nat) : Bool := (Int32.ofInt a).toBitVec.getLsbD j
def z24 (a : Int) : Prop := 0 ≤ a ∧ a ≤ 16777215
theorem zb_ev {op : Int32 → Int32 → Int32} {a b : Int} {j : Nat} : zb (zi_ev op a b) j = (op (Int32.ofInt a) (Int32.ofInt b)).toBitVec.getLsbD j := by
  unfold zb zi_ev
  rw [Int32.ofInt_toInt]
theorem zb_and {a b : Int} {j : Nat} : zb (zi_and a b) j = (zb a j && zb b j) := by
  unfold zi_and
  rw [zb_ev]
  show ((Int32.ofInt a).toBitVec &&& (Int32.ofInt b).toBitVec).getLsbD j = _
  rw [BitVec.getLsbD_and]; rfl
theorem zb_or {a b : Int} {j : Nat} : zb (zi_or a b) j = (zb a j || zb b j) := by
  unfold zi_or
  rw [zb_ev]
  show ((Int32.ofInt a).toBitVec ||| (Int32.ofInt b).toBitVec).getLsbD j = _
  rw [BitVec.getLsbD_or]; rfl
theorem zb_xor {a b : Int} {j : Nat} : zb (zi_xor a b) j = (zb a j ^^ zb b j) := by
  unfold zi_xor
  rw [zb_ev]
  show ((Int32.ofInt a).toBitVec ^^^ (Int32.ofInt b).toBitVec).getLsbD j = _
  rw [BitVec.getLsbD_xor]; rfl
theorem zb_ge {a : Int} {j : Nat} (h : 32 ≤ j) : zb a j = false := BitVec.getLsbD_of_ge _ _ h
theorem zb_m1 {j : Nat} (h : j < 32) : zb (-1) j = true := by
  have hd : ∀ j, j < 32 → zb (-1) j = true := by decide +kernel
  exact hd j h
theorem zb_0 {j : Nat} : zb 0 j = false := by
  by_cases h : j < 32
  · have hd : ∀ j, j < 32 → zb 0 j = false := by decide +kernel
    exact hd j h
  · exact zb_ge (by omega)
theorem zb_1 {j : Nat} : zb 1 j = decide (j = 0) := by
  by_cases h : j < 32
  · have hd : ∀ j, j < 32 → zb 1 j = decide (j = 0) := by decide +kernel
    exact hd j h
  · rw [zb_ge (by omega), decide_eq_false (by omega)]
theorem zb_not {a : Int} {j : Nat} (h : j < 32) : zb (zi_xor a (-1)) j = !zb a j := by
  rw [zb_xor, zb_m1 h, Bool.xor_true]
theorem zb_shl {i : Int} {j : Nat} (h1 : 0 ≤ i) (h2 : i < 32) : zb (zi_shl 1 i) j = decide (j = i.toNat) := by
  have hd : ∀ k : Nat, k < 32 → ∀ j : Nat, j < 32 → zb (zi_shl 1 (k : Int)) j = decide (j = k) := by decide +kernel
  by_cases h : j < 32
  · have := hd i.toNat (by omega) j h
    rwa [show ((i.toNat : Nat) : Int) = i by omega] at this
  · rw [zb_ge (by omega), decide_eq_false (by omega)]
theorem zi_ev_in {op : Int32 → Int32 → Int32} {a b : Int} : -2147483648 ≤ zi_ev op a b ∧ zi_ev op a b ≤ 2147483647 := by
  unfold zi_ev
  have h1 := Int32.le_toInt (op (Int32.ofInt a) (Int32.ofInt b))
  have h2 := Int32.toInt_lt (op (Int32.ofInt a) (Int32.ofInt b))
  constructor <;> omega
theorem zb_ext {a b : Int} (a1 : -2147483648 ≤ a) (a2 : a ≤ 2147483647) (b1 : -2147483648 ≤ b) (b2 : b ≤ 2147483647) (h : ∀ j, j < 32 → zb a j = zb b j) : a = b := by
  have e : Int32.ofInt a = Int32.ofInt b := Int32.toBitVec_inj.mp (BitVec.eq_of_getLsbD_eq fun i hi => h i hi)
  have := congrArg Int32.toInt e
  rwa [zi_of a1 a2, zi_of b1 b2] at this
theorem zb_tb {t : Int} {j : Nat} (h1 : 0 ≤ t) (h2 : t ≤ 2147483647) : zb t j = t.toNat.testBit j := by
  unfold zb BitVec.getLsbD
  rw [zi_nat h1 h2]
theorem zb_tb2 {t i : Int} (h1 : 0 ≤ t) (h2 : t ≤ 2147483647) : zi_tb t i = zb t i.toNat := (zb_tb h1 h2).symm
theorem z24_b {a : Int} (h : z24 a) {j : Nat} (hj : 24 ≤ j) : zb a j = false := by
  obtain ⟨h1, h2⟩ := h
  rw [zb_tb h1 (by omega)]
  refine Nat.testBit_lt_two_pow (Nat.lt_of_lt_of_le (show a.toNat < 2 ^ 24 by omega) (Nat.pow_le_pow_right (by decide) hj))
theorem z24_of {a : Int} (a1 : -2147483648 ≤ a) (a2 : a ≤ 2147483647) (h : ∀ j, 24 ≤ j → j < 32 → zb a j = false) : z24 a := by
  have h0 : 0 ≤ a := by
    apply Int.not_lt.mp
    intro hn
    have hs := h 31 (by decide) (by decide)
    unfold zb at hs
    have e := zi_of a1 a2
    have e2 : (Int32.ofInt a).toBitVec.toInt = a := e
    have hm : (Int32.ofInt a).toBitVec.msb = false := by
      rw [BitVec.msb_eq_getLsbD_last]; exact hs
    rw [BitVec.toInt_eq_msb_cond, hm] at e2
    simp at e2
    omega
  refine ⟨h0, ?_⟩
  have hl : a.toNat < 2 ^ 24 := Nat.lt_pow_two_of_testBit _ fun i hi => by
    by_cases h32 : i < 32
    · rw [← zb_tb h0 a2]; exact h i hi h32
    · rw [← zb_tb h0 a2]; exact zb_ge (by omega)
  omega
theorem z24_or {a b : Int} (h1 : z24 a) (h2 : z24 b) : z24 (zi_or a b) := by
  have := zi_ev_in (op := fun x y => x ||| y) (a := a) (b := b)
  exact z24_of this.1 this.2 fun j j1 _ => by rw [zb_or, z24_b h1 j1, z24_b h2 j1]; rfl
theorem z24_and {a b : Int} (h1 : z24 a) : z24 (zi_and a b) := by
  have := zi_ev_in (op := fun x y => x &&& y) (a := a) (b := b)
  exact z24_of this.1 this.2 fun j j1 _ => by rw [zb_and, z24_b h1 j1]; rfl
theorem z24_and2 {a b : Int} (h1 : z24 b) : z24 (zi_and a b) := by
  have := zi_ev_in (op := fun x y => x &&& y) (a := a) (b := b)
  exact z24_of this.1 this.2 fun j j1 _ => by rw [zb_and, z24_b h1 j1, Bool.and_false]
theorem z24_xor {a b : Int} (h1 : z24 a) (h2 : z24 b) : z24 (zi_xor a b) := by
  have := zi_ev_in (op := fun x y => x ^^^ y) (a := a) (b := b)
  exact z24_of this.1 this.2 fun j j1 _ => by rw [zb_xor, z24_b h1 j1, z24_b h2 j1]; rfl
theorem z24_shl {i : Int} (h1 : 0 ≤ i) (h2 : i < 24) : z24 (zi_shl 1 i) := by
  have := zi_ev_in (op := fun x y => x <<< (y &&& 31)) (a := 1) (b := i)
  exact z24_of this.1 this.2 fun j j1 _ => by rw [zb_shl h1 (by omega), decide_eq_false (by omega)]
theorem z24_0 : z24 0 := ⟨by decide, by decide⟩
theorem z24_ext {a b : Int} (h1 : z24 a) (h2 : z24 b) (h : ∀ j, j < 24 → zb a j = zb b j) : a = b := by
  obtain ⟨a1, a2⟩ := id h1
  obtain ⟨b1, b2⟩ := id h2
  refine zb_ext (by omega) (by omega) (by omega) (by omega) fun j _ => ?_
  by_cases hj : j < 24
  · exact h j hj
  · rw [z24_b h1 (by omega), z24_b h2 (by omega)]
theorem z24_z {a : Int} (h1 : z24 a) : a = 0 ↔ ∀ j, j < 24 → zb a j = false :=
  ⟨fun e j _ => by rw [e]; exact zb_0, fun h => z24_ext h1 z24_0 fun j hj => by rw [h j hj]; exact zb_0.symm⟩
theorem zb_bit {t i : Int} (k1 : 0 ≤ i) (k2 : i < 32) : zi_and (zi_shr t i) 1 = if zb t i.toNat = true then 1 else 0 := by
  have hs : zb (zi_shr t i) 0 = zb t i.toNat := by
    unfold zi_shr
    rw [zb_ev]
    show ((Int32.ofInt t).toBitVec.sshiftRight' ((Int32.ofInt i &&& 31).toBitVec.smod 32)).getLsbD 0 = _
    unfold BitVec.sshiftRight'
    rw [zi_amt k1 k2, BitVec.getLsbD_sshiftRight, if_pos (by omega)]
    simp [zb]
  have hin := zi_ev_in (op := fun x y => x &&& y) (a := zi_shr t i) (b := 1)
  refine zb_ext hin.1 hin.2 (by split <;> decide) (by split <;> decide) fun j _ => ?_
  show zb (zi_and (zi_shr t i) 1) j = _
  rw [zb_and, zb_1]
  by_cases hj : j = 0
  · subst hj
    rw [hs, decide_eq_true rfl, Bool.and_true]
    cases h : zb t i.toNat
    · rw [if_neg (by decide)]; exact zb_0.symm
    · rw [if_pos rfl, zb_1]; rfl
  · rw [decide_eq_false hj, Bool.and_false]
    split
    · rw [zb_1, decide_eq_false hj]
    · exact zb_0.symm
theorem zb_bit1 {t i : Int} (k1 : 0 ≤ i) (k2 : i < 32) (h : zb t i.toNat = true) : zi_and (zi_shr t i) 1 = 1 := by rw [zb_bit k1 k2, if_pos h]
theorem zb_bit0 {t i : Int} (k1 : 0 ≤ i) (k2 : i < 32) (h : ¬ zb t i.toNat = true) : zi_and (zi_shr t i) 1 = 0 := by rw [zb_bit k1 k2, if_neg h]
/-- a set that is made one by one, up from below -/
theorem zb_grow {s i : Int} {n : Nat} {P : Nat → Bool} (e : i = n) (hn : n < 24) (h : ∀ j, zb s j = (decide (j < n) && P j)) : ∀ j, zb (if P n = true then zi_or s (zi_shl 1 i) else s) j = (decide (j < n + 1) && P j) := by
  intro j
  by_cases hp : P n = true
  · rw [if_pos hp, zb_or, zb_shl (by omega) (by omega), h, show i.toNat = n by omega]
    by_cases ej : j = n
    · subst ej
      rw [decide_eq_true (show j = j from rfl), decide_eq_true (show j < j + 1 by omega), hp, Bool.or_true]; rfl
    · rw [decide_eq_false ej, Bool.or_false]
      congr 1
      by_cases hj : j < n
      · rw [decide_eq_true hj, decide_eq_true (by omega)]
      · rw [decide_eq_false hj, decide_eq_false (by omega)]
  · rw [if_neg hp, h]
    by_cases ej : j = n
    · subst ej
      rw [Bool.eq_false_iff.mpr hp, Bool.and_false, Bool.and_false]
    · congr 1
      by_cases hj : j < n
      · rw [decide_eq_true hj, decide_eq_true (by omega)]
      · rw [decide_eq_false hj, decide_eq_false (by omega)]
end
section
/-! What is seen: one star, on both sides. -/
def yg_ab (a : Int) : Int := if a < 0 then -a else a
def yg_cb (a b : Int) : Int := if 24 - yg_ab (a - b) < yg_ab (a - b) then 24 - yg_ab (a - b) else yg_ab (a - b)
def yg_tr (a b : Int) : Int := if 12 < (b - a + 24) % 24 then (b - a + 24) % 24 - 24 else (b - a + 24) % 24
theorem ze_Math_ab2 {a : Int} (h1 : -2147483648 < a) (h2 : a ≤ 2147483647) : zf_Math_abs a = some (yg_ab a) := by
  unfold zf_Math_abs yg_ab
  by_cases h : a < 0
  · rw [if_pos h, if_pos h, zi_w_id (by omega) (by omega)]
  · rw [if_neg h, if_neg h]
theorem ze_M_size2 {a : Int} (h1 : -2147483648 < a) (h2 : a ≤ 2147483647) : zf_M_size a = some (yg_ab a) := by
  unfold zf_M_size yg_ab
  by_cases h : a < 0
  · rw [if_pos h, if_pos h, zi_w_id (by omega) (by omega)]
  · rw [if_neg h, if_neg h]
theorem yg_ab_in {a : Int} : 0 ≤ yg_ab a ∧ (yg_ab a = a ∨ yg_ab a = -a) := by
  unfold yg_ab
  split <;> omega
theorem ze_colsBetween {a b : Int} (a1 : 0 ≤ a) (a2 : a ≤ 23) (b1 : 0 ≤ b) (b2 : b ≤ 23) : zf_X_columnsBetween a b = some (yg_cb a b) ∧ 0 ≤ yg_cb a b ∧ yg_cb a b ≤ 12 := by
  have h := yg_ab_in (a := a - b)
  refine ⟨?_, ?_, ?_⟩
  · unfold zf_X_columnsBetween
    rw [zi_w_id (x := a - b) (by omega) (by omega), ze_Math_ab2 (by omega) (by omega), zl_b, zi_w_id (x := 24 - yg_ab (a - b)) (by omega) (by omega), ze_Math_min, zl_b]
    rfl
  · unfold yg_cb; split <;> omega
  · unfold yg_cb; split <;> omega
theorem ze_toRight {a b : Int} (a1 : 0 ≤ a) (a2 : a ≤ 23) (b1 : 0 ≤ b) (b2 : b ≤ 23) : zf_M_toRight a b = some (yg_tr a b) ∧ -11 ≤ yg_tr a b ∧ yg_tr a b ≤ 12 ∧ yg_ab (yg_tr a b) = yg_cb b a := by
  refine ⟨?_, ?_, ?_, ?_⟩
  · unfold zf_M_toRight
    rw [zi_w_id (x := b - a) (by omega) (by omega), zi_w_id (x := b - a + 24) (by omega) (by omega), zi_rem_eq (by omega) (by omega) (by decide) (by decide), zi_w_id (by omega) (by omega)]
    unfold yg_tr
    split <;> rfl
  · unfold yg_tr; split <;> omega
  · unfold yg_tr; split <;> omega
  · unfold yg_tr yg_cb yg_ab
    (repeat' split) <;> omega
theorem ze_way {a b c d : Int} (a1 : 0 ≤ a) (a2 : a ≤ 23) (c1 : 0 ≤ c) (c2 : c ≤ 23) (b1 : 0 ≤ b) (b2 : b ≤ 11) (d1 : 0 ≤ d) (d2 : d ≤ 11) : zf_M_way a b c d = some (yg_cb c a + yg_ab (b - d)) := by
  obtain ⟨e1, e2, e3, e4⟩ := ze_toRight a1 a2 c1 c2
  have h := yg_ab_in (a := b - d)
  have h2 := (ze_colsBetween c1 c2 a1 a2).2
  unfold zf_M_way
  rw [e1, zl_b, ze_M_size2 (by omega) (by omega), zl_b, zi_w_id (x := b - d) (by omega) (by omega), ze_M_size2 (by omega) (by omega), zl_b, e4, zi_w_id (by omega) (by omega)]
/-- the sky on both sides -/
def yk_sky (t h u cl sc sr ch : Int) (co ro br wc wr m : Int → Int) : Prop :=
  (z24 t ∧ m 126 = t) ∧ ((0 ≤ h ∧ h ≤ 23) ∧ m 128 = h) ∧ m 129 = u ∧ (z24 cl ∧ m 130 = cl) ∧ ((0 ≤ sc ∧ sc ≤ 11) ∧ m 131 = sc) ∧ ((0 ≤ sr ∧ sr ≤ 11) ∧ m 132 = sr) ∧ ((0 ≤ ch ∧ ch ≤ 65535) ∧ m 133 = ch) ∧
  ∀ i, 0 ≤ i → i < 24 → ((0 ≤ co i ∧ co i ≤ 23) ∧ (0 ≤ ro i ∧ ro i ≤ 11) ∧ (0 ≤ br i ∧ br i ≤ 9) ∧ (-3 ≤ wc i ∧ wc i ≤ 3) ∧ (-3 ≤ wr i ∧ wr i ≤ 3)) ∧ ((0 ≤ m i ∧ m i ≤ 23) ∧ (0 ≤ m (24 + i) ∧ m (24 + i) ≤ 11) ∧ (0 ≤ m (48 + i) ∧ m (48 + i) ≤ 9) ∧ (-3 ≤ m (72 + i) ∧ m (72 + i) ≤ 3) ∧ (-3 ≤ m (96 + i) ∧ m (96 + i) ≤ 3)) ∧
    (zb t i.toNat = true → m i = co i ∧ m (24 + i) = ro i ∧ m (48 + i) = br i ∧ m (72 + i) = wc i ∧ m (96 + i) = wr i)
/-- the letters for a star, from a place -/
def yv_lt (h u i b r c x y d : Int) : Int → Int := fun j => if j = 0 then h else if j = 1 then u else if j = 2 then i else if j = 3 then b else if j = 4 then r else if j = 5 then c else if j = 10 then x else if j = 11 then y else if j = 12 then d else 0
/-- what lies under, while stars are set -/
def yv_ba (h u x y : Int) (g : Int → Int) : Prop := g 0 = h ∧ g 1 = u ∧ g 6 = 0 ∧ g 7 = 0 ∧ g 8 = 0 ∧ g 9 = 0 ∧ g 10 = x ∧ g 11 = y
theorem yv_13 {P : Int → Prop} (h0 : P 0) (h1 : P 1) (h2 : P 2) (h3 : P 3) (h4 : P 4) (h5 : P 5) (h6 : P 6) (h7 : P 7) (h8 : P 8) (h9 : P 9) (h10 : P 10) (h11 : P 11) (h12 : P 12) : ∀ j, 0 ≤ j → j < 13 → P j := by
  intro j j0 j1
  have : j = 0 ∨ j = 1 ∨ j = 2 ∨ j = 3 ∨ j = 4 ∨ j = 5 ∨ j = 6 ∨ j = 7 ∨ j = 8 ∨ j = 9 ∨ j = 10 ∨ j = 11 ∨ j = 12 := by omega
  rcases this with e | e | e | e | e | e | e | e | e | e | e | e | e <;> subst e <;> assumption
theorem yv_lt_of {h u i b r c x y d : Int} {g : Int → Int} (hg : yv_ba h u x y g) (e2 : g 2 = i) (e3 : g 3 = b) (e4 : g 4 = r) (e5 : g 5 = c) (e12 : g 12 = d) : ∀ j, 0 ≤ j → j < 13 → g j = yv_lt h u i b r c x y d j := by
  obtain ⟨g0, g1, g6, g7, g8, g9, g10, g11⟩ := hg
  exact yv_13 g0 g1 e2 e3 e4 e5 g6 g7 g8 g9 g10 g11 e12
theorem ze_fill13_l0 {v : Int} : ∀ (d : Nat) (j : Int) (g : Int → Int) (n : Nat), j + d = 13 → 0 ≤ j → d < n → ∃ g2, zf_Arrays_fill_13_l0 v 13 n j g = some g2 ∧ (∀ i, j ≤ i → i < 13 → g2 i = v) ∧ ∀ i, i < j → g2 i = g i := by
  intro d
  induction d with
  | zero =>
    intro j g n e j0 hn
    obtain ⟨n, rfl⟩ : ∃ q, n = q + 1 := ⟨n - 1, by omega⟩
    refine ⟨g, ?_, fun i a b => by omega, fun _ _ => rfl⟩
    show zf_Arrays_fill_13_l0_b v 13 (zf_Arrays_fill_13_l0 v 13 n) j g = _
    unfold zf_Arrays_fill_13_l0_b
    rw [if_neg (by omega)]
  | succ d ih =>
    intro j g n e j0 hn
    obtain ⟨n, rfl⟩ : ∃ q, n = q + 1 := ⟨n - 1, by omega⟩
    show ∃ g2, zf_Arrays_fill_13_l0_b v 13 (zf_Arrays_fill_13_l0 v 13 n) j g = some g2 ∧ _
    unfold zf_Arrays_fill_13_l0_b
    rw [if_pos (by omega), zl_ci j0 (by omega), zi_w_id (x := j + 1) (by omega) (by omega)]
    obtain ⟨g2, e2, a, b⟩ := ih (j + 1) (zv_up g j v) n (by omega) (by omega) (by omega)
    refine ⟨g2, e2, fun i i1 i2 => ?_, fun i i1 => ?_⟩
    · by_cases ei : i = j
      · subst ei; rw [b i (by omega), zv_up_s]
      · exact a i (by omega) i2
    · rw [b i (by omega), zv_up_n (by omega)]
theorem ze_forget {g : Int → Int} : ∃ g2, zf_Law_forgetLetters g = some g2 ∧ ∀ i, 0 ≤ i → i < 13 → g2 i = 0 := by
  obtain ⟨g2, e, a, -⟩ := ze_fill13_l0 (v := 0) 13 0 g zi_fu rfl (by decide) (by decide)
  refine ⟨g2, ?_, a⟩
  unfold zf_Law_forgetLetters zf_Arrays_fill_13
  rw [e]; rfl
theorem ze_goTo {x y f0 f1 h u : Int} {g : Int → Int} : ∃ g2, zf_View_goTo x y f0 f1 h u g = some (x, y, g2) ∧ yv_ba h u x y g2 := by
  obtain ⟨g2, e, a⟩ := ze_forget (g := g)
  refine ⟨zv_up (zv_up (zv_up (zv_up g2 0 h) 1 u) 10 x) 11 y, ?_, ?_⟩
  · unfold zf_View_goTo zf_Law_setTime
    rw [e]; rfl
  · have k := fun i h1 h2 => a i h1 h2
    refine ⟨rfl, rfl, ?_, ?_, ?_, ?_, rfl, rfl⟩
    · exact k 6 (by decide) (by decide)
    · exact k 7 (by decide) (by decide)
    · exact k 8 (by decide) (by decide)
    · exact k 9 (by decide) (by decide)
theorem ze_M_feels_l0 : ∀ (d : Nat) (j : Int) (g : Int → Int) (n : Nat), j + d = 13 → 0 ≤ j → d < n → ∃ g2, zf_M_feels_l0 n j g = some g2 ∧ (∀ i, j ≤ i → i < 13 → g2 i = 0) ∧ ∀ i, i < j → g2 i = g i := by
  intro d
  induction d with
  | zero =>
    intro j g n e j0 hn
    obtain ⟨n, rfl⟩ : ∃ q, n = q + 1 := ⟨n - 1, by omega⟩
    refine ⟨g, ?_, fun i a b => by omega, fun _ _ => rfl⟩
    show zf_M_feels_l0_b (zf_M_feels_l0 n) j g = _
    unfold zf_M_feels_l0_b
    rw [if_neg (by omega)]
  | succ d ih =>
    intro j g n e j0 hn
    obtain ⟨n, rfl⟩ : ∃ q, n = q + 1 := ⟨n - 1, by omega⟩
    show ∃ g2, zf_M_feels_l0_b (zf_M_feels_l0 n) j g = some g2 ∧ _
    unfold zf_M_feels_l0_b
    rw [if_pos (by omega), zl_ci j0 (by omega), zi_w_id (x := j + 1) (by omega) (by omega)]
    obtain ⟨g2, e2, a, b⟩ := ih (j + 1) (zv_up g j 0) n (by omega) (by omega) (by omega)
    refine ⟨g2, e2, fun i i1 i2 => ?_, fun i i1 => ?_⟩
    · by_cases ei : i = j
      · subst ei; rw [b i (by omega), zv_up_s]
      · exact a i (by omega) i2
    · rw [b i (by omega), zv_up_n (by omega)]
theorem ze_M_feels {g m : Int → Int} : ∃ g2, zf_M_feels g m = some g2 ∧ g2 0 = m 128 ∧ g2 1 = m 129 ∧ ∀ i, 2 ≤ i → i < 13 → g2 i = 0 := by
  obtain ⟨g2, e, a, -⟩ := ze_M_feels_l0 13 0 g zi_fu rfl (by decide) (by decide)
  refine ⟨zv_up (zv_up g2 0 (m 128)) 1 (m 129), ?_, rfl, rfl, fun i i1 i2 => ?_⟩
  · unfold zf_M_feels
    rw [e]; rfl
  · rw [zv_up_n (by omega), zv_up_n (by omega)]; exact a i (by omega) i2
theorem ze_M_feelsStar {i : Int} {g m : Int → Int} (i1 : 0 ≤ i) (i2 : i < 24) (c1 : 0 ≤ m i) (c2 : m i ≤ 23) (h1 : 0 ≤ m 128) (h2 : m 128 ≤ 23) : ∃ g2, zf_M_feelsStar i g m = some g2 ∧ g2 0 = m 128 ∧ g2 1 = m 129 ∧ g2 2 = i ∧ g2 3 = m (48 + i) ∧ g2 4 = m (24 + i) ∧ g2 5 = (m i + m 128) % 24 ∧ ∀ j, 6 ≤ j → j < 13 → g2 j = 0 := by
  obtain ⟨g2, e, a0, a1, a⟩ := ze_M_feels (g := g) (m := m)
  refine ⟨zv_up (zv_up (zv_up (zv_up g2 2 i) 3 (m (48 + i))) 4 (m (24 + i))) 5 ((m i + m 128) % 24), ?_, a0, a1, rfl, rfl, rfl, rfl, fun j j1 j2 => ?_⟩
  · unfold zf_M_feelsStar
    rw [e, zl_b, zi_w_id (x := 48 + i) (by omega) (by omega), zi_w_id (x := 24 + i) (by omega) (by omega), zl_ci (by omega) (by omega), zl_ci (by omega) (by omega), ze_M_standsAt i1 i2 c1 c2 h1 h2, zl_b]
  · rw [zv_up_n (by omega), zv_up_n (by omega), zv_up_n (by omega), zv_up_n (by omega)]
    exact a j (by omega) j2
theorem ze_M_hasClause_l0 {k nc : Int} {mk : Int → Int} (h14 : nc ≤ 14) : ∀ (d : Nat) (j : Int) (n : Nat), nc - j ≤ d → 0 ≤ j → d < n → (zf_M_hasClause_l0 k nc mk n j = some (.inl ()) ∧ ∀ i, j ≤ i → i < nc → mk i ≠ k) ∨ (zf_M_hasClause_l0 k nc mk n j = some (.inr 1) ∧ ∃ i, j ≤ i ∧ i < nc ∧ mk i = k) := by
  intro d
  induction d with
  | zero =>
    intro j n e j0 hn
    obtain ⟨n, rfl⟩ : ∃ q, n = q + 1 := ⟨n - 1, by omega⟩
    refine Or.inl ⟨?_, fun i a b => by omega⟩
    show zf_M_hasClause_l0_b k nc mk (zf_M_hasClause_l0 k nc mk n) j = _
    unfold zf_M_hasClause_l0_b
    rw [if_neg (by omega)]
  | succ d ih =>
    intro j n e j0 hn
    obtain ⟨n, rfl⟩ : ∃ q, n = q + 1 := ⟨n - 1, by omega⟩
    show (zf_M_hasClause_l0_b k nc mk (zf_M_hasClause_l0 k nc mk n) j = _ ∧ _) ∨ (zf_M_hasClause_l0_b k nc mk (zf_M_hasClause_l0 k nc mk n) j = _ ∧ _)
    unfold zf_M_hasClause_l0_b
    by_cases hj : j < nc
    · rw [if_pos hj, zl_ci j0 (by omega), zi_w_id (x := j + 1) (by omega) (by omega)]
      by_cases h : mk j = k
      · rw [if_pos h]; exact Or.inr ⟨rfl, j, Int.le_refl _, hj, h⟩
      · rw [if_neg h]
        rcases ih (j + 1) n (by omega) (by omega) (by omega) with ⟨a, b⟩ | ⟨a, i, b1, b2, b3⟩
        · exact Or.inl ⟨a, fun i i1 i2 => by
            by_cases e : i = j
            · subst e; exact h
            · exact b i (by omega) i2⟩
        · exact Or.inr ⟨a, i, by omega, b2, b3⟩
    · rw [if_neg hj]; exact Or.inl ⟨rfl, fun i a b => by omega⟩
theorem ze_M_hasClause {L : zLW} {K V kd fr hf to C mk mf mh mt : Int → Int} {nc tS tL sP lP mc : Int} (R : yl_R L K V nc tS tL sP lP kd fr hf to mc C mk mf mh mt) : zf_M_hasClause 118 mc mk = some tS ∧ (tS = 0 ∨ tS = 1) := by
  obtain ⟨⟨r1, r2, r3, r4⟩, r5, st, r6, r7, ⟨⟨t1, -⟩, -⟩, r9⟩ := R
  refine ⟨?_, by rcases t1 with ⟨h, _⟩ | ⟨h, _⟩ <;> omega⟩
  unfold zf_M_hasClause
  rcases ze_M_hasClause_l0 (k := 118) (mk := mk) (show mc ≤ 14 by omega) mc.toNat 0 zi_fu (by omega) (by decide) (by have : 1000 < zi_fu := (by decide); omega) with ⟨a, b⟩ | ⟨a, i, b1, b2, b3⟩
  · rw [a, zl_b]
    rcases t1 with ⟨h, q, q1, q2, q3⟩ | ⟨h, _⟩
    · exact absurd ((r5 q q1 (by omega)).2.1.trans q3) (b q q1 (by omega))
    · rw [h]; rfl
  · rw [a, zl_b]
    rcases t1 with ⟨h, _⟩ | ⟨h, hn⟩
    · rw [h]; rfl
    · exact absurd ((r5 i b1 (by omega)).2.1.symm.trans b3) (hn i b1 (by omega))
end
