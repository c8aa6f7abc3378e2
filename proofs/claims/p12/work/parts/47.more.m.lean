/-! 47.more, 48a.base, 49.names7, 49b.letter, 60a.dec -/
section
/-! System.arraycopy over names, from place 0 to place 0. -/
def zv_cpy (g0 g : Int → Int) (m : Int) : Int → Int := fun q => if q < m then g0 q else g q
section ZVACP
variable {cl : List vw_C} {FT : Nat → Nat → FieldType} {KXf : (Nat → Nat) → Nat → State → Heap → Prop} {TBL : List Cond} {MT : List zM} {y : zNL} {mm : zM} {K : zK} {rm : Nat × Nat} {good : Nat → List zNV → List zNV → List zNV → List (Int → Int) → Prop}
variable {pc : Nat} {L : List zNV} {F : List zNV} {G : List (Int → Int)}
theorem zv_acp (hB : zv_B cl FT KXf TBL MT y mm K rm good) {i x a c n n0 j j0 : Nat} {m : Int} {g g0 : Int → Int} (hd : decode mm.2.1 pc = .ok (.invokestatic i, 3)) (hl : (i, 8, x) ∈ k_LK K) (ha : zv_ar y c = some (0, n, j)) (ha0 : zv_ar y a = some (0, n0, j0)) (hg1 : zv_l G j = some g) (hg0 : zv_l G j0 = some g0) (hm0 : 0 ≤ m) (hm1 : m ≤ n) (hm2 : m ≤ n0) (hrm : 1 ≤ rm.1 ∧ 60 ≤ rm.2)
    (k : good (pc + 3) L [] F (zv_s G j (zv_cpy g0 g m))) : good pc L [.inl m, .inl 0, .inr c, .inl 0, .inr a] F G := by
  obtain ⟨p, l, e, R, s, mi, args, below, meth, cc, Q, OB, D, DA, sz, A, H0, Ts, cells, slots, ⟨hx, hb, hml, hD, hKS⟩, ⟨hsz, hXp, hX, hR1, hR2, -⟩, ⟨hwf, hinj, hge, hOB⟩, hg⟩ := hB
  refine (hg _ _ _ _ _).mpr fun H locs ls stk h1 h2 h3 h4 h5 => ?_
  obtain ⟨w1, s1, rfl, ⟨zn, rfl, en⟩, w2, s2, rfl, ⟨zd, rfl, ed⟩, w3, s3, rfl, hw3, w4, s4, rfl, ⟨zs, rfl, es⟩, w5, s5, rfl, hw5, hs5⟩ := h5
  have hw3 : w3 = .ref (A c) := zv_w_r hw3 (zv_ar_lt hwf ha)
  have hw5 : w5 = .ref (A a) := zv_w_r hw5 (zv_ar_lt hwf ha0)
  have hs5 : s5 = [] := hs5
  subst hw3; subst hw5; subst hs5
  have hmA := zv_ar_ok ha
  have hmA0 := zv_ar_ok ha0
  obtain ⟨f, g2, x1, x2, x3⟩ := h1.2.2.2 _ hmA
  obtain ⟨f0, g3, y1, y2, y3⟩ := h1.2.2.2 _ hmA0
  have x1 : H[A c]? = some (arrV (DA 0) n f) := x1
  have y1 : H[A a]? = some (arrV (DA 0) n0 f0) := y1
  have x2 : zv_l G j = some g2 := x2
  have y2 : zv_l G j0 = some g3 := y2
  rw [hg1] at x2
  rw [hg0] at y2
  cases x2
  cases y2
  have x3 : ∀ q : Nat, q < n → ∃ x : Int32, f q = .int x ∧ x.toInt = g q := x3
  have y3 : ∀ q : Nat, q < n0 → ∃ x : Int32, f0 q = .int x ∧ x.toInt = g0 q := y3
  obtain ⟨a1, a2, a3, a4⟩ := zv_wfA hwf hmA
  have a1 : c < n_N y := a1
  have t1 : H[A c]? = some (arrV (DA 0) n (fun q => .int (z_int (f q)))) := by
    rw [x1]
    exact congrArg some (z_arrC (fun q hq => by obtain ⟨z, z1, -⟩ := x3 q hq; show f q = .int (z_int (f q)); rw [z1]; rfl))
  have t0 : H[A a]? = some (arrV (DA 0) n0 (fun q => .int (z_int (f0 q)))) := by
    rw [y1]
    exact congrArg some (z_arrC (fun q hq => by obtain ⟨z, z1, -⟩ := y3 q hq; show f0 q = .int (z_int (f0 q)); rw [z1]; rfl))
  obtain ⟨ww1, ww2, ww3, ww4⟩ := (hKS.2.2.1 _ hl).2.1 rfl
  have hls : mm.2.2.1 = ls.size := by obtain ⟨lv, z1, _⟩ := h4; exact z1.1.symm
  refine z_cprow hx hb (by rw [hml, hls]) hD ww1 ww2 ww3 ww4 t0 t1 es ed (by omega) (by omega) (by omega) (by omega) (by show 0 + 60 ≤ _; omega) hd fun H1 LL hLL e1 e2 e3 => ?_
  have hne : ∀ b, b < n_N y → b ≠ c → A b ≠ A c := fun b hb1 hb2 hb3 => hb2 (hinj _ _ hb1 a1 hb3)
  refine (hg _ _ _ _ _).mp k H1 _ ls [] ⟨fun q hq => ?_, fun q hq => ?_, fun q hq => ?_, fun q hq => ?_⟩ (zv_frm_tr h2 ⟨e2, fun b hb1 => e3 b (fun e => hb1 c a1 e.symm), fun q hq r' k2 w hr hk2 hk3 hk4 => ?_⟩) (z_S_app h3 e2 e3 (hge _ a1) hLL) h4 rfl
  · obtain ⟨w1, w2, w3⟩ := zv_wfO hwf hq
    obtain ⟨r', V', y1, y2⟩ := h1.1 q hq
    exact ⟨r', V', y1, y2.kept (e3 _ (hne _ w1 (w2 _ hmA)))⟩
  · obtain ⟨r', x', f', y1, y2, y3, y4⟩ := h1.2.1 q hq
    exact ⟨r', x', f', y1, y2, z_sl_kept y3 (e3 _ (hne _ (zv_wfIn hwf hq).1 (fun e => a3 _ hq e.symm))), y4⟩
  · obtain ⟨r', y1, y2, y3⟩ := h1.2.2.1 q hq
    exact ⟨r', y1, y2, z_sl_kept y3 (e3 _ (hne _ (zv_wfR hwf hq).1 (fun e => a4 _ hq e.symm)))⟩
  · obtain ⟨f2, g2, u1, u2, u3⟩ := h1.2.2.2 q hq
    obtain ⟨w1, w2, w3, w4⟩ := zv_wfA hwf hq
    by_cases e : q.1 = c
    · obtain ⟨v1, v2⟩ := a2 q hq
      obtain ⟨v3, v4⟩ := v2 e.symm
      have v5 : j = q.2.2.2 := v1.mpr e.symm
      have v3 : 0 = q.2.1 := v3
      have v4 : n = q.2.2.1 := v4
      refine ⟨_, _, by rw [e, ← v3, ← v4]; exact e1, by rw [← v5]; exact zv_ls_eq hg1, fun i hi => ?_⟩
      rw [← v4] at hi
      rw [← v3]
      obtain ⟨z, z1, z2⟩ := x3 i hi
      by_cases ei : (i : Int) < m
      · obtain ⟨z', z1', z2'⟩ := y3 i (by omega)
        refine ⟨z', ?_, ?_⟩
        · show Value.int (if 0 ≤ i ∧ i < 0 + zn.toInt.toNat then z_int (f0 (0 + (i - 0))) else z_int (f i)) = .int z'
          rw [if_pos (by omega), Nat.zero_add, Nat.sub_zero, z1']
          rfl
        · show z'.toInt = if (i : Int) < m then g0 i else g i
          rw [if_pos ei]; exact z2'
      · refine ⟨z, ?_, ?_⟩
        · show Value.int (if 0 ≤ i ∧ i < 0 + zn.toInt.toNat then z_int (f0 (0 + (i - 0))) else z_int (f i)) = .int z
          rw [if_neg (by omega), z1]
          rfl
        · show z.toInt = if (i : Int) < m then g0 i else g i
          rw [if_neg ei]; exact z2
    · refine ⟨f2, g2, by rw [e3 _ (hne _ w1 e)]; exact u1, ?_, u3⟩
      rw [zv_ls_ne (fun h7 => e ((w2 _ hmA).1.mp h7.symm))]
      exact u2
  · exact z_sl_kept hk4 (e3 _ (hne _ (zv_wfO hwf hq).1 ((zv_wfO hwf hq).2.1 _ hmA)))
end ZVACP

def zi_let {α : Type} (e : Int) (k : Int → Option α) : Option α := k e
theorem zi_letp {α : Type} {e : Int} {k : Int → Option α} {o : α} (h : zi_let e k = some o) : ∃ v, e = v ∧ k v = some o := ⟨e, rfl, h⟩
def zi_fu : Nat := 1000000000000000000
theorem zi_rk {α β : Type} {P : α → Prop} {w o : β} {q : α ⊕ β} (h : Sum.inr w = q) (hK : Sum.elim P (fun w => w = o) q) : w = o := by
  subst h
  exact hK
theorem zi_sl {α β γ : Type} {f : α → γ} {g : β → γ} {e : α} {o : γ} (h : Sum.elim f g (Sum.inl e) = o) : f e = o := h
/-- the same, or nothing known -/
def zv_wl : List zNV → List zNV → Prop
  | [], [] => True
  | v :: L', w :: L => (zv_is v → v = w) ∧ zv_wl L' L
  | _, _ => False
theorem zv_wl_at : ∀ {L' L : List zNV} {i : Nat} {v : zNV}, zv_wl L' L → zv_l L' i = some v → zv_is v → zv_l L i = some v
  | [], _, _, _, _, h, _ => by cases h
  | _ :: _, [], _, _, h, _, _ => absurd h (fun h => h)
  | u :: L', w :: L, 0, v, h, h1, h2 => by
    have e : u = v := Option.some.inj h1
    subst e
    show some w = some u
    rw [h.1 h2]
  | u :: L', w :: L, i + 1, v, h, h1, h2 => zv_wl_at (L' := L') (L := L) (i := i) h.2 h1 h2
theorem zv_wl_to : ∀ {L' L : List zNV} {i : Nat} {w : zNV}, zv_wl L' L → zv_l L i = some w → ∃ v, zv_l L' i = some v ∧ (zv_is v → v = w)
  | _, [], _, _, _, h => by cases h
  | [], _ :: _, _, _, h, _ => absurd h (fun h => h)
  | u :: L', x :: L, 0, w, h, h1 => by
    have e : x = w := Option.some.inj h1
    subst e
    exact ⟨u, rfl, h.1⟩
  | u :: L', x :: L, i + 1, w, h, h1 => zv_wl_to (L' := L') (L := L) (i := i) h.2 h1
section ZVWK
variable {cl : List vw_C} {FT : Nat → Nat → FieldType} {KXf : (Nat → Nat) → Nat → State → Heap → Prop} {TBL : List Cond} {MT : List zM} {y : zNL} {mm : zM} {K : zK} {rm : Nat × Nat} {good : Nat → List zNV → List zNV → List zNV → List (Int → Int) → Prop}
variable {pc : Nat} {L L' S : List zNV} {F F' : List zNV} {G : List (Int → Int)}
theorem zv_wk (hB : zv_B cl FT KXf TBL MT y mm K rm good) (hw : zv_wl L' L) (hf : zv_wl F' F) (k : good pc L' S F' G) : good pc L S F G := by
  obtain ⟨p, l, e, R, s, m, args, below, meth, c, Q, OB, D, DA, sz, A, H0, Ts, cells, slots, ⟨hx, hb, hml, hD, hKS⟩, -, -, hg⟩ := hB
  refine (hg _ _ _ _ _).mpr fun H locs ls stk h1 h2 h3 h4 h5 => ?_
  obtain ⟨lv, a1, a2, a3⟩ := h4
  refine (hg _ _ _ _ _).mp k H locs ls stk ⟨h1.1, fun q hq => ?_, h1.2.2.1, h1.2.2.2⟩ h2 h3 ⟨lv, a1, a2, fun i v hi hv => a3 i v (zv_wl_at hw hi hv) hv⟩ h5
  obtain ⟨r, w, f, c1, c2, c3, c4, c5⟩ := h1.2.1 q hq
  obtain ⟨v, v1, v2⟩ := zv_wl_to hf c4
  exact ⟨r, w, v, c1, c2, c3, v1, fun his => by have e := v2 his; subst e; exact c5 his⟩
end ZVWK
end
section
/-! What the functions' operators are on numbers that are not below 0. -/
theorem zi_of {a : Int} (h1 : -2147483648 ≤ a) (h2 : a ≤ 2147483647) : (Int32.ofInt a).toInt = a := by
  rw [Int32.toInt_ofInt]
  exact z_bmod h1 h2
theorem zi_nat {a : Int} (h1 : 0 ≤ a) (h2 : a ≤ 2147483647) : (Int32.ofInt a).toBitVec.toNat = a.toNat := by
  have e := zi_of (a := a) (by omega) h2
  have := z_nat (x := Int32.ofInt a) (by rw [e]; exact h1)
  rw [e] at this
  omega
theorem zi_and_nat {a b : Int} (h1 : 0 ≤ a) (h2 : a ≤ 2147483647) (k1 : 0 ≤ b) (k2 : b ≤ 2147483647) : zi_and a b = ((a.toNat &&& b.toNat : Nat) : Int) := by
  have e : (Int32.ofInt a &&& Int32.ofInt b).toBitVec.toNat = a.toNat &&& b.toNat := by rw [z_and_nat, zi_nat h1 h2, zi_nat k1 k2]
  have l : a.toNat &&& b.toNat ≤ a.toNat := Nat.and_le_left
  unfold zi_and zi_ev
  show (Int32.ofInt a &&& Int32.ofInt b).toInt = _
  rw [z_ofnat (by rw [e]; omega), e]
theorem zi_or_lt {a b : Nat} (h : a < 2147483648) (k : b < 2147483648) : a ||| b < 2147483648 := Nat.or_lt_two_pow (n := 31) h k
theorem zi_xor_lt {a b : Nat} (h : a < 2147483648) (k : b < 2147483648) : a ^^^ b < 2147483648 := Nat.xor_lt_two_pow (n := 31) h k
theorem zi_or_nat {a b : Int} (h1 : 0 ≤ a) (h2 : a ≤ 2147483647) (k1 : 0 ≤ b) (k2 : b ≤ 2147483647) : zi_or a b = ((a.toNat ||| b.toNat : Nat) : Int) := by
  have e : (Int32.ofInt a ||| Int32.ofInt b).toBitVec.toNat = a.toNat ||| b.toNat := by rw [z_or_nat, zi_nat h1 h2, zi_nat k1 k2]
  have l := zi_or_lt (a := a.toNat) (b := b.toNat) (by omega) (by omega)
  unfold zi_or zi_ev
  show (Int32.ofInt a ||| Int32.ofInt b).toInt = _
  rw [z_ofnat (by rw [e]; omega), e]
theorem zi_xor_nat {a b : Int} (h1 : 0 ≤ a) (h2 : a ≤ 2147483647) (k1 : 0 ≤ b) (k2 : b ≤ 2147483647) : zi_xor a b = ((a.toNat ^^^ b.toNat : Nat) : Int) := by
  have e : (Int32.ofInt a ^^^ Int32.ofInt b).toBitVec.toNat = a.toNat ^^^ b.toNat := by rw [z_xor_nat, zi_nat h1 h2, zi_nat k1 k2]
  have l := zi_xor_lt (a := a.toNat) (b := b.toNat) (by omega) (by omega)
  unfold zi_xor zi_ev
  show (Int32.ofInt a ^^^ Int32.ofInt b).toInt = _
  rw [z_ofnat (by rw [e]; omega), e]
theorem zi_amt {i : Int} (h1 : 0 ≤ i) (h2 : i < 32) : ((Int32.ofInt i &&& 31).toBitVec.smod 32).toNat = i.toNat := by
  obtain ⟨k, k1, k2, k3⟩ := z_amt (Int32.ofInt i)
  have e := zi_of (a := i) (by omega) (by omega)
  have := k3 (by rw [e]; exact h1) (by rw [e]; exact h2)
  rw [e] at this
  rw [k2]; omega
theorem zi_shr_eq {a i : Int} (h1 : -2147483648 ≤ a) (h2 : a ≤ 2147483647) (k1 : 0 ≤ i) (k2 : i < 32) : zi_shr a i = a / ((2 ^ i.toNat : Nat) : Int) := by
  unfold zi_shr zi_ev
  show (Int32.ofInt a >>> (Int32.ofInt i &&& 31)).toInt = _
  rw [z_shr_val (zi_amt k1 k2), zi_of h1 h2]
/-- the bit at a place -/
def zi_tb (t i : Int) : Bool := t.toNat.testBit i.toNat
theorem zi_bit {t i : Int} (h1 : 0 ≤ t) (h2 : t ≤ 2147483647) (k1 : 0 ≤ i) (k2 : i < 32) : zi_and (zi_shr t i) 1 = if zi_tb t i then 1 else 0 := by
  have hp : (0 : Int) < ((2 ^ i.toNat : Nat) : Int) := by have := Nat.two_pow_pos i.toNat; omega
  have e := zi_shr_eq (a := t) (i := i) (by omega) h2 k1 k2
  have q1 : 0 ≤ t / ((2 ^ i.toNat : Nat) : Int) := Int.ediv_nonneg h1 (by omega)
  have q2 : t / ((2 ^ i.toNat : Nat) : Int) ≤ t := Int.ediv_le_self _ h1
  rw [e, zi_and_nat q1 (by omega) (by decide) (by decide)]
  have e2 : (t / ((2 ^ i.toNat : Nat) : Int)).toNat = t.toNat / 2 ^ i.toNat := by
    have h : t = (t.toNat : Int) := by omega
    rw [h, ← Int.natCast_ediv, Int.toNat_natCast, Int.toNat_natCast]
  rw [e2]
  unfold zi_tb
  have e3 : (1 : Int).toNat = 1 := rfl
  rw [e3, Nat.and_one_is_mod, Nat.testBit_eq_decide_div_mod_eq]
  by_cases hm : t.toNat / 2 ^ i.toNat % 2 = 1
  · rw [if_pos (by simpa using hm), hm]; rfl
  · have : t.toNat / 2 ^ i.toNat % 2 = 0 := by omega
    rw [if_neg (by simpa using hm), this]; rfl
theorem zi_shl1 {i : Int} (k1 : 0 ≤ i) (k2 : i < 31) : zi_shl 1 i = ((2 ^ i.toNat : Nat) : Int) := by
  have h : ∀ k : Nat, k < 31 → zi_shl 1 (k : Int) = ((2 ^ k : Nat) : Int) := by decide +kernel
  have := h i.toNat (by omega)
  rwa [show ((i.toNat : Nat) : Int) = i by omega] at this
theorem zi_pow_le {i : Int} (k1 : 0 ≤ i) (k2 : i < 31) : (2 ^ i.toNat : Nat) ≤ 1073741824 := by
  have : 2 ^ i.toNat ≤ 2 ^ 30 := Nat.pow_le_pow_right (by omega) (by omega)
  exact this
theorem zi_set {t i : Int} (h1 : 0 ≤ t) (h2 : t ≤ 2147483647) (k1 : 0 ≤ i) (k2 : i < 31) : zi_or t (zi_shl 1 i) = ((t.toNat ||| 2 ^ i.toNat : Nat) : Int) := by
  have hp := zi_pow_le k1 k2
  rw [zi_shl1 k1 k2]
  generalize 2 ^ i.toNat = p at hp ⊢
  rw [zi_or_nat h1 h2 (by omega) (by omega), Int.toNat_natCast]
/-- what is set -/
theorem zi_set_tb {t i : Int} (h1 : 0 ≤ t) (h2 : t ≤ 2147483647) (k1 : 0 ≤ i) (k2 : i < 31) (j : Int) (hj : 0 ≤ j) : zi_tb (zi_or t (zi_shl 1 i)) j = (zi_tb t j || decide (j = i)) := by
  rw [zi_set h1 h2 k1 k2]
  unfold zi_tb
  rw [Int.toNat_natCast, Nat.testBit_or, Nat.testBit_two_pow]
  congr 1
  by_cases h : j = i
  · rw [h]; simp
  · rw [decide_eq_false h, decide_eq_false (by omega)]
theorem zi_not {a : Int} (h1 : 0 ≤ a) (h2 : a ≤ 2147483647) : zi_xor a (-1) = -1 - a := by
  unfold zi_xor zi_ev
  show (Int32.ofInt a ^^^ Int32.ofInt (-1)).toInt = _
  have k := z_xor_ok (a := (a, a)) (b := (-1, -1)) (x := Int32.ofInt a) (y := Int32.ofInt (-1)) (by rw [z_in, zi_of (by omega) h2]; exact ⟨Int.le_refl _, Int.le_refl _⟩) (by rw [z_in, zi_of (by decide) (by decide)]; exact ⟨Int.le_refl _, Int.le_refl _⟩)
  have e : z_xor (a, a) (-1, -1) = (-1 - a, -1 - a) := by
    unfold z_xor
    rw [if_neg (by intro h; exact absurd h.2.1 (by decide)), if_pos ⟨rfl, rfl⟩]
  rw [e] at k
  have k1 : -1 - a ≤ _ := k.1
  have k2 : _ ≤ -1 - a := k.2
  omega
/-- what is taken away -/
theorem zi_clr {t i : Int} (h1 : 0 ≤ t) (h2 : t ≤ 2147483647) (k1 : 0 ≤ i) (k2 : i < 31) : 0 ≤ zi_and t (zi_xor (zi_shl 1 i) (-1)) ∧ zi_and t (zi_xor (zi_shl 1 i) (-1)) ≤ t ∧ ∀ j : Int, 0 ≤ j → j < 31 → zi_tb (zi_and t (zi_xor (zi_shl 1 i) (-1))) j = (zi_tb t j && decide (j ≠ i)) := by
  have hp := zi_pow_le k1 k2
  have htb : ∀ j : Nat, (2 ^ i.toNat).testBit j = decide (i.toNat = j) := fun j => Nat.testBit_two_pow
  rw [zi_shl1 k1 k2]
  generalize 2 ^ i.toNat = p at hp htb ⊢
  rw [zi_not (by omega) (by omega)]
  have hn : (Int32.ofInt (-1 - (p : Int))).toBitVec.toNat = 2 ^ 32 - (p + 1) := by
    have e := zi_of (a := -1 - (p : Int)) (by omega) (by omega)
    have lt := (Int32.ofInt (-1 - (p : Int))).toBitVec.isLt
    have e2 : (Int32.ofInt (-1 - (p : Int))).toBitVec.toInt = -1 - (p : Int) := e
    rw [BitVec.toInt_eq_toNat_cond] at e2
    generalize (Int32.ofInt (-1 - (p : Int))).toBitVec.toNat = w at lt e2 ⊢
    split at e2 <;> omega
  have e : (Int32.ofInt t &&& Int32.ofInt (-1 - (p : Int))).toBitVec.toNat = t.toNat &&& (2 ^ 32 - (p + 1)) := by rw [z_and_nat, zi_nat h1 h2, hn]
  have l : t.toNat &&& (2 ^ 32 - (p + 1)) ≤ t.toNat := Nat.and_le_left
  have v : zi_and t (-1 - (p : Int)) = ((t.toNat &&& (2 ^ 32 - (p + 1)) : Nat) : Int) := by
    unfold zi_and zi_ev
    show (Int32.ofInt t &&& Int32.ofInt (-1 - (p : Int))).toInt = _
    rw [z_ofnat (by rw [e]; omega), e]
  rw [v]
  have htb2 : ∀ j : Nat, j < 32 → (2 ^ 32 - (p + 1)).testBit j = !decide (i.toNat = j) := fun j hj => by
    rw [Nat.testBit_two_pow_sub_succ (by omega), htb, decide_eq_true hj]; simp
  generalize 2 ^ 32 - (p + 1) = w at l htb2 ⊢
  refine ⟨by omega, by omega, fun j hj hj2 => ?_⟩
  unfold zi_tb
  rw [Int.toNat_natCast, Nat.testBit_and, htb2 _ (by omega)]
  congr 1
  by_cases h : j = i
  · rw [h]; simp
  · rw [decide_eq_false (show ¬ i.toNat = j.toNat by omega), decide_eq_true (show j ≠ i from h)]; rfl
theorem zi_div_eq {a b : Int} (h1 : 0 ≤ a) (h2 : a ≤ 2147483647) (k1 : 0 < b) (k2 : b ≤ 2147483647) : zi_div a b = a / b :=
  zv_div_eq (zi_of (by omega) h2) (zi_of (by omega) k2) h1 k1
theorem zi_rem_eq {a b : Int} (h1 : 0 ≤ a) (h2 : a ≤ 2147483647) (k1 : 0 < b) (k2 : b ≤ 2147483647) : zi_rem a b = a % b :=
  zv_rem_eq (zi_of (by omega) h2) (zi_of (by omega) k2) h1 k1
/-! Going on: what is answered, and what holds of it. -/
def zh_ok {α : Type} (x : Option α) (P : α → Prop) : Prop := ∃ o, x = some o ∧ P o
theorem zh_ret {α : Type} {a : α} {P : α → Prop} (h : P a) : zh_ok (some a) P := ⟨a, rfl, h⟩
theorem zh_bind {α β : Type} {x : Option α} {f : α → Option β} {Q : α → Prop} {P : β → Prop} (h : zh_ok x Q) (k : ∀ o, Q o → zh_ok (f o) P) : zh_ok (x.bind f) P := by
  obtain ⟨o, rfl, hq⟩ := h
  exact k o hq
theorem zh_cond {α : Type} {b : Bool} {x : Option α} {P : α → Prop} (h : b = true) (k : zh_ok x P) : zh_ok (cond b x none) P := by
  rw [h]; exact k
theorem zh_mono {α : Type} {x : Option α} {P Q : α → Prop} (h : zh_ok x P) (k : ∀ o, P o → Q o) : zh_ok x Q := by
  obtain ⟨o, e, hp⟩ := h
  exact ⟨o, e, k o hp⟩
theorem zi_ix_of {a : Int} {n : Nat} (h1 : 0 ≤ a) (h2 : a < n) : zi_ix a n = true := by
  unfold zi_ix
  rw [decide_eq_true h1, decide_eq_true h2]; rfl
theorem zi_ne_of {a : Int} (h : a ≠ 0) : zi_ne a = true := by
  unfold zi_ne
  rw [decide_eq_false h]; rfl
theorem zi_bo_of {a : Int} (h1 : 0 ≤ a) (h2 : a ≤ 1) : zi_bo a = true := by
  unfold zi_bo
  rw [decide_eq_true h1, decide_eq_true h2]; rfl
end
section
/-! String constants over named cells. -/
section ZVSTR
variable {cl : List vw_C} {FT : Nat → Nat → FieldType} {own own2 tx : String} {k1 k2 n : Nat} {TBL : List Cond} {MT : List zM} {y : zNL} {mm : zM} {K : zK} {rm : Nat × Nat} {good : Nat → List zNV → List zNV → List zNV → List (Int → Int) → Prop}
variable {pc : Nat} {L S : List zNV} {F : List zNV} {G : List (Int → Int)}
theorem zv_ldcs (hB : zv_B cl FT (zs_KX own tx k1 n mm.1.cls k2) TBL MT y mm K rm good) (hd : decode mm.2.1 pc = .ok (.ldc k2, 2)) (k : good (pc + 2) L (.inr 902 :: S) F G) : good pc L S F G := by
  obtain ⟨p, l, e, R, s, m, args, below, meth, c, Q, OB, D, DA, sz, A, H0, Ts, cells, slots, ⟨hx, hb, hml, hD, hKS⟩, ⟨hsz, hXp, hX, -⟩, ⟨hwf, hinj, hge, hOB⟩, hg⟩ := hB
  refine (hg _ _ _ _ _).mpr fun H locs ls stk h1 h2 h3 h4 h5 => ?_
  obtain ⟨-, f, g1, -⟩ := hX
  exact va_ldcS hx hb hD.2.1 g1 hd ((hg _ _ _ _ _).mp k H locs ls _ h1 h2 h3 h4 ⟨_, _, rfl, (congrArg Value.ref (hOB 2)).symm, h5⟩)
theorem zs_X0 {OB : Nat → Nat} {sz : Nat} {s : State} {H0 H : Heap} {locs : List Loc} (hX : zs_KX own tx k1 n own2 k2 OB sz s H0) (h3 : va_S (fun q => sz ≤ q) H0 H locs) : zs_K3 own2 tx k2 n OB sz s H := zs_K3_p.2.1 s H0 H hX.2 h3.1 h3.2.1
end ZVSTR
end
section
/-! The place of a letter in a string constant. -/
section ZVSTRN
variable {cl : List vw_C} {FT : Nat → Nat → FieldType} {own own2 tx : String} {k1 k2 n : Nat} {TBL : List Cond} {MT : List zM} {y : zNL} {mm : zM} {K : zK} {rm : Nat × Nat} {good : Nat → List zNV → List zNV → List zNV → List (Int → Int) → Prop}
variable {pc : Nat} {L S : List zNV} {F : List zNV} {G : List (Int → Int)}
theorem zkt_stat (hB : zv_B cl FT (zs_KX own tx k1 n own2 k2) TBL MT y mm K rm good) {i : Nat} (hw : Cond.fieldLink mm.1.cls i "java/lang/String" "COMPACT_STRINGS" "Z" ∈ TBL) (hd : decode mm.2.1 pc = .ok (.getstatic i, 3)) (k : good (pc + 3) L (.inl 1 :: S) F G) : good pc L S F G := by
  obtain ⟨p, l, e, R, s, m, args, below, meth, c, Q, OB, D, DA, sz, A, H0, Ts, cells, slots, ⟨hx, hb, hml, hD, hKS⟩, ⟨hsz, hXp, hX, -⟩, ⟨hwf, hinj, hge, hOB⟩, hg⟩ := hB
  refine (hg _ _ _ _ _).mpr fun H locs ls stk h1 h2 h3 h4 h5 => ?_
  obtain ⟨f, g1, g2, g3, g4, g5, ⟨cf, kf, fi, fd, a, cell, q1, q2, q3, q4, q5, q6, q7, q8⟩, g7⟩ := zs_X0 hX h3
  exact W.gets hx hb hD.2.1 (hD.1 _ (hKS.2.2.2.2.2.1 _ hw).1) q1 q2 q3 q4 q5 (fun e => by rw [e] at q6; cases q6) q7 rfl hd ((hg _ _ _ _ _).mp k H locs ls _ h1 h2 h3 h4 ⟨_, _, rfl, ⟨1, rfl, rfl⟩, h5⟩)
theorem zkt_coder (hB : zv_B cl FT (zs_KX own tx k1 n own2 k2) TBL MT y mm K rm good) {i : Nat} (hw : Cond.fieldLink mm.1.cls i "java/lang/String" "coder" "B" ∈ TBL) (hd : decode mm.2.1 pc = .ok (.getfield i, 3)) (k : good (pc + 3) L (.inl 0 :: S) F G) : good pc L (.inr 902 :: S) F G := by
  obtain ⟨p, l, e, R, s, m, args, below, meth, c, Q, OB, D, DA, sz, A, H0, Ts, cells, slots, ⟨hx, hb, hml, hD, hKS⟩, ⟨hsz, hXp, hX, -⟩, ⟨hwf, hinj, hge, hOB⟩, hg⟩ := hB
  refine (hg _ _ _ _ _).mpr fun H locs ls stk h1 h2 h3 h4 h5 => ?_
  obtain ⟨f, g1, g2, ⟨cf, kf, fi, fd, cell, q1, q2, q3, q4, q5, q6⟩, g4, g5, g6, g7⟩ := zs_X0 hX h3
  obtain ⟨w, st, rfl, hw2, h6⟩ := h5
  have hw2 : w = .ref (A (900 + 2)) := hw2
  rw [hOB 2] at hw2
  subst hw2
  exact W.getf hx hb hD.2.1 (hD.1 _ (hKS.2.2.2.2.2.1 _ hw).1) q1 q2 q3 q4 (v := .int 0) q5 rfl rfl hd ((hg _ _ _ _ _).mp k H locs ls _ h1 h2 h3 h4 ⟨_, _, rfl, ⟨0, rfl, rfl⟩, h6⟩)
theorem zkt_value (hB : zv_B cl FT (zs_KX own tx k1 n own2 k2) TBL MT y mm K rm good) {i : Nat} (hw : Cond.fieldLink mm.1.cls i "java/lang/String" "value" "[B" ∈ TBL) (hd : decode mm.2.1 pc = .ok (.getfield i, 3)) (k : good (pc + 3) L (.inr 903 :: S) F G) : good pc L (.inr 902 :: S) F G := by
  obtain ⟨p, l, e, R, s, m, args, below, meth, c, Q, OB, D, DA, sz, A, H0, Ts, cells, slots, ⟨hx, hb, hml, hD, hKS⟩, ⟨hsz, hXp, hX, -⟩, ⟨hwf, hinj, hge, hOB⟩, hg⟩ := hB
  refine (hg _ _ _ _ _).mpr fun H locs ls stk h1 h2 h3 h4 h5 => ?_
  obtain ⟨f, g1, g2, g3, ⟨cf, kf, fi, fd, cell, q1, q2, q3, q4, q5, q6⟩, g5, g6, g7⟩ := zs_X0 hX h3
  obtain ⟨w, st, rfl, hw2, h6⟩ := h5
  have hw2 : w = .ref (A (900 + 2)) := hw2
  rw [hOB 2] at hw2
  subst hw2
  exact W.getf hx hb hD.2.1 (hD.1 _ (hKS.2.2.2.2.2.1 _ hw).1) q1 q2 q3 q4 (v := .ref (OB 3)) q5 rfl rfl hd ((hg _ _ _ _ _).mp k H locs ls _ h1 h2 h3 h4 ⟨_, _, rfl, (congrArg Value.ref (hOB 3)).symm, h6⟩)
theorem zkt_len (hB : zv_B cl FT (zs_KX own tx k1 n own2 k2) TBL MT y mm K rm good) (hn : n < 2147483648) (hd : decode mm.2.1 pc = .ok (.arraylength, 1)) (k : good (pc + 1) L (.inl n :: S) F G) : good pc L (.inr 903 :: S) F G := by
  obtain ⟨p, l, e, R, s, m, args, below, meth, c, Q, OB, D, DA, sz, A, H0, Ts, cells, slots, ⟨hx, hb, hml, hD, hKS⟩, ⟨hsz, hXp, hX, -⟩, ⟨hwf, hinj, hge, hOB⟩, hg⟩ := hB
  refine (hg _ _ _ _ _).mpr fun H locs ls stk h1 h2 h3 h4 h5 => ?_
  obtain ⟨f, g1, g2, g3, g4, ⟨cell, q1, q2, q3, q4, q5, q6, q7⟩, g6, g7⟩ := zs_X0 hX h3
  obtain ⟨w, st, rfl, hw2, h6⟩ := h5
  have hw2 : w = .ref (A (900 + 3)) := hw2
  rw [hOB 3] at hw2
  subst hw2
  exact W.alen (n := Int32.ofNat n) hx hb q1 q2 q5 rfl rfl hd ((hg _ _ _ _ _).mp k H locs ls _ h1 h2 h3 h4 ⟨_, _, rfl, ⟨_, rfl, Int32.toInt_ofNat_of_lt (by omega)⟩, h6⟩)
theorem zkt_bald (hB : zv_B cl FT (zs_KX own tx k1 n own2 k2) TBL MT y mm K rm good) {a : Int} (ha1 : 0 ≤ a) (ha2 : a < n) (hd : decode mm.2.1 pc = .ok (.baload, 1)) (k : good (pc + 1) L (.inl (zs_by a.toNat).toInt :: S) F G) : good pc L (.inl a :: .inr 903 :: S) F G := by
  obtain ⟨p, l, e, R, s, m, args, below, meth, c, Q, OB, D, DA, sz, A, H0, Ts, cells, slots, ⟨hx, hb, hml, hD, hKS⟩, ⟨hsz, hXp, hX, -⟩, ⟨hwf, hinj, hge, hOB⟩, hg⟩ := hB
  refine (hg _ _ _ _ _).mpr fun H locs ls stk h1 h2 h3 h4 h5 => ?_
  obtain ⟨f, g1, g2, g3, g4, ⟨cell, q1, q2, q3, q4, q5, q6, q7⟩, g6, g7⟩ := zs_X0 hX h3
  obtain ⟨w0, st0, rfl, ⟨x, rfl, rfl⟩, w, st, rfl, hw2, h6⟩ := h5
  have hw2 : w = .ref (A (900 + 3)) := hw2
  rw [hOB 3] at hw2
  subst hw2
  obtain ⟨b1, b2⟩ := zv_ix ha1 ha2
  have b3 : x.toNatClampNeg < n := b2
  have v1 := g7 _ b3
  have hin' : ¬ (x < 0 ∨ cell.slots.size ≤ x.toNatClampNeg) := by
    intro q
    rcases q with q | q
    · exact b1 (Or.inl q)
    · omega
  exact W.bald (v := .int (zs_by x.toInt.toNat)) hx hb q1 q2 q3 hin' (by rw [q6 _ b3, v1]; rfl) rfl rfl hd ((hg _ _ _ _ _).mp k H locs ls _ h1 h2 h3 h4 ⟨_, _, rfl, ⟨_, rfl, rfl⟩, h6⟩)
theorem zkt_i2c (hB : zv_B cl FT (zs_KX own tx k1 n own2 k2) TBL MT y mm K rm good) {a : Int} (hd : decode mm.2.1 pc = .ok (.i2c, 1)) (k : ∀ v : Int, good (pc + 1) L (.inl v :: S) F G) : good pc L (.inl a :: S) F G := by
  obtain ⟨p, l, e, R, s, m, args, below, meth, c, Q, OB, D, DA, sz, A, H0, Ts, cells, slots, ⟨hx, hb, hml, hD, hKS⟩, ⟨hsz, hXp, hX, -⟩, ⟨hwf, hinj, hge, hOB⟩, hg⟩ := hB
  refine (hg _ _ _ _ _).mpr fun H locs ls stk h1 h2 h3 h4 h5 => ?_
  obtain ⟨w, st, rfl, ⟨x, rfl, hx2⟩, h6⟩ := h5
  exact lv_i2c hx hb hd rfl ((hg _ _ _ _ _).mp (k _) H locs ls _ h1 h2 h3 h4 ⟨_, _, rfl, ⟨_, rfl, rfl⟩, h6⟩)
theorem zkt_i2b (hB : zv_B cl FT (zs_KX own tx k1 n own2 k2) TBL MT y mm K rm good) {a : Int} (hd : decode mm.2.1 pc = .ok (.i2b, 1)) (k : ∀ v : Int, good (pc + 1) L (.inl v :: S) F G) : good pc L (.inl a :: S) F G := by
  obtain ⟨p, l, e, R, s, m, args, below, meth, c, Q, OB, D, DA, sz, A, H0, Ts, cells, slots, ⟨hx, hb, hml, hD, hKS⟩, ⟨hsz, hXp, hX, -⟩, ⟨hwf, hinj, hge, hOB⟩, hg⟩ := hB
  refine (hg _ _ _ _ _).mpr fun H locs ls stk h1 h2 h3 h4 h5 => ?_
  obtain ⟨w, st, rfl, ⟨x, rfl, hx2⟩, h6⟩ := h5
  exact lv_i2b hx hb hd rfl ((hg _ _ _ _ _).mp (k _) H locs ls _ h1 h2 h3 h4 ⟨_, _, rfl, ⟨_, rfl, rfl⟩, h6⟩)
/-- a call of a string's method -/
theorem zkt_inv (hB : zv_B cl FT (zs_KX own tx k1 n own2 k2) TBL MT y mm K rm good) {i : Nat} {mm2 : zM} {rm2 : Nat × Nat} {P2 : zNP} {Q2 : zNQ} {va : List zNV} (hok : zv_OK TBL cl (zs_KX own tx k1 n own2 k2) y mm2 rm2 P2 Q2) (hlk : z_lk TBL mm.1.cls 0 i mm2.1 mm2.2.1 mm2.2.2.1 mm2.2.2.2.1 mm2.2.2.2.2.1) (hcl : mm2.1.cls = "java/lang/String") (hd : decode mm.2.1 pc = .ok (.invokevirtual i, 3))
    (hn : Nat.beq va.length mm2.2.2.2.2.1 = true) (hS : (Nat.ble S.length 8 && S.all zv_n1) = true) (hr1 : rm2.1 + 1 ≤ rm.1) (hr2 : 8 + (mm2.2.2.1 + 11) + rm2.2 ≤ rm.2)
    (hP : P2 (.inr 902 :: va) F G) (k : ∀ r F' G', Q2 (.inr 902 :: va) F G r F' G' → good (pc + 3) L (zv_ro r S) F' G') : good pc L (va.reverse ++ .inr 902 :: S) F G := by
  obtain ⟨p, l, e, R, s, m, args, below, meth, cc, Q, OB, D, DA, sz, A, H0, Ts, cells, slots, ⟨hx, hb, hml, hD, hKS⟩, ⟨hsz, hXp, hX, hrf, hrl, hrc, hrs⟩, ⟨hwf, hinj, hge, hOB⟩, hg⟩ := hB
  refine (hg _ _ _ _ _).mpr fun H locs ls stk h1 h2 h3 h4 h5 => ?_
  have hgd := hKS.2.2.2.2.2.1
  obtain ⟨hcode, hini, hmh, hnp, k1', k2', k3'⟩ := hlk
  obtain ⟨hts, hown, hK, htys⟩ := hD
  obtain ⟨va1, st1, rfl, hv1, w0, st2, rfl, hw, h6⟩ := zv_st_app h5
  have hw : w0 = .ref (A (900 + 2)) := hw
  subst hw
  have hrev : ∃ vb, va1 = vb.reverse ∧ zv_st A va vb := ⟨va1.reverse, by rw [List.reverse_reverse], by have := zv_st_rev hv1; rwa [List.reverse_reverse] at this⟩
  obtain ⟨vb, rfl, hvb⟩ := hrev
  obtain ⟨f, g1, ⟨cell, q1, q2, q3, q4⟩, g3, g4, g5, g6, g7⟩ := zs_X0 hX h3
  have hnp2 : ∀ sig, parseMethodDescriptor mm2.1.desc = some sig → mm2.2.2.2.2.1 = sig.parameters.length := by
    intro sig hsig
    rw [hsig] at hnp
    exact (Option.some.inj hnp).symm
  have hwsG : ∀ w ∈ (Cond.code mm2.1 mm2.2.1 mm2.2.2.1 mm2.2.2.2.1 :: TBL), ∀ (a' : Array Value) (U : State), s.WarmedH U.vm → w.before a' U = true := by
    refine z_pay hts (fun w hw => ?_)
    rcases List.mem_cons.mp hw with rfl | hw
    · exact ⟨(hgd _ hcode).1, rfl⟩
    · exact ⟨(hgd w hw).1, (hgd w hw).2⟩
  have hH : sz ≤ H.size := by rw [h2.1]; exact hsz
  have hXH := hXp.2.1 s H0 H hX h3.1 h3.2.1
  have hlen := zv_st_len hvb
  have hst : zv_st A (.inr 902 :: va) (.ref (A (900 + 2)) :: vb) := ⟨_, _, rfl, zv_w_mk (A := A) (c := 902) (by decide), hvb⟩
  have hpre : ∀ U : State, U.heap = H → s.WarmedH U.vm → zv_Pre D DA cl y sz (zs_KX own tx k1 n own2 k2 OB sz) A (.inr 902 :: va) F G (Value.ref (A (900 + 2)) :: vb).toArray U := fun U hU hW => ⟨_, rfl, hst, by rw [hU]; exact h1, by rw [hU]; exact hH, va_K.moved hW.alike hK, by rw [hU]; exact hXp.1 s U H hXH hW⟩
  have hsum : (st2.map fun v => v.category).sum ≤ 8 := by
    rw [Bool.and_eq_true] at hS
    rw [zv_sum1 (zv_st_cat hS.2 h6), zv_st_len h6]
    exact Nat.le_of_ble_eq_true hS.1
  refine zv_after (va_runV (b := A (900 + 2)) (As := vb) (rest := st2) (C := mm2.1.cls) (n := mm2.2.2.2.2.1) ⟨hx, hb, hml, hown, hts⟩ (hok l OB D DA sz A _ F G hP hinj hge hOB) ⟨⟨rfl, rfl, by show rm2.1 + 1 ≤ _; omega, by show 8 + (mm2.2.2.1 + 11) + rm2.2 ≤ _; omega, hwsG, List.mem_cons_self, hts _ (hgd _ hcode).1, hts _ (hgd _ hini).1, hmh, hnp2, hts _ (hgd _ k1').1⟩, hts _ (hgd _ k2').1, hts _ (hgd _ k3').1⟩ ⟨zv_blind hXp, ⟨cell, by rw [hOB 2]; exact q1, q2, by rw [hcl]; exact q3⟩, hpre⟩ rfl (hlen.trans (z_beq hn)) (by obtain ⟨lv, z1, _⟩ := h4; exact z1.1) rfl (lv_room hsum) hd ⟨hrc, hrs⟩) h3 ?_ ?_
  · intro v s1 t hs1 hq
    obtain ⟨r', v', F', G', e0, q1, q2, q3, q4⟩ := hq
    rw [hs1] at q3
    exact ⟨q3.1, fun q hq => q3.2.1 q (fun c2 hc2 e => hq (by rw [← e]; exact hge _ hc2))⟩
  · intro v s1 t locs1 hs1 hq hS1
    obtain ⟨r', v', F', G', e0, q1, q2, q3, q4⟩ := hq
    have e0 : v = v' := Outcome.returned.inj e0
    subst e0
    rw [hs1] at q3
    refine (hg _ _ _ _ _).mp (k r' F' G' q4) t.heap locs1 ls _ q2 (zv_frm_tr h2 q3) hS1 h4 ?_
    match r', v, q1 with
    | none, none, _ => exact h6
    | some x, some w, ⟨z, z1, z2⟩ => exact ⟨w, st2, rfl, ⟨z, z1, z2⟩, h6⟩
/-- a string's length -/
theorem zkt_length (hB : zv_B cl FT (zs_KX own tx k1 n own2 k2) TBL MT y mm K rm good) {i : Nat} (hw : ∀ w ∈ zs_w, w ∈ TBL) (hn : n < 2147483648) (hlk : Cond.methodLink mm.1.cls i zs_yL ∈ TBL) (hd : decode mm.2.1 pc = .ok (.invokevirtual i, 3)) (hS : (Nat.ble S.length 8 && S.all zv_n1) = true) (hr1 : 2 ≤ rm.1) (hr2 : 40 ≤ rm.2)
    (k : good (pc + 3) L (.inl n :: S) F G) : good pc L (.inr 902 :: S) F G := by
  obtain ⟨p, l, e, R, s, m, args, below, meth, cc, Q, OB, D, DA, sz, A, H0, Ts, cells, slots, ⟨hx, hb, hml, hD, hKS⟩, ⟨hsz, hXp, hX, hrf, hrl, hrc, hrs⟩, ⟨hwf, hinj, hge, hOB⟩, hg⟩ := hB
  refine (hg _ _ _ _ _).mpr fun H locs ls stk h1 h2 h3 h4 h5 => ?_
  have hgd := hKS.2.2.2.2.2.1
  obtain ⟨hts, hown, hK, htys⟩ := hD
  obtain ⟨w0, st2, rfl, hw0, h6⟩ := h5
  have hw0 : w0 = .ref (A (900 + 2)) := hw0
  rw [hOB 2] at hw0
  subst hw0
  have hKH : zs_K own2 tx k2 n (fun j => OB (j + 1)) sz s H := by
    obtain ⟨f, g1, g2, g3, g4, g5, g6, g7⟩ := zs_X0 hX h3
    exact ⟨OB 3, f, g1, g2, g3, g4, g5, g6⟩
  have hK0 := hKH
  obtain ⟨adV, f, y1, y2, y3, y4, y5, y6⟩ := hKH
  have hw2 : ∀ w ∈ zs_w, w.before args s = true := fun w h => hts w (hgd _ (hw w h)).1
  have hwsG : ∀ w ∈ (Cond.code zs_yL prog_18_method_54_code 1 (some .int) :: TBL), ∀ (a' : Array Value) (U : State), s.WarmedH U.vm → w.before a' U = true := by
    refine z_pay hts (fun w h => ?_)
    rcases List.mem_cons.mp h with rfl | h
    · exact ⟨(hgd _ (hw _ (List.mem_of_getElem? (i := 8) rfl))).1, rfl⟩
    · exact ⟨(hgd w h).1, (hgd w h).2⟩
  refine W.callR (W.runV (b := OB 2) (As := []) (rest := st2) (C := "java/lang/String") (n := 0) (index := i) ⟨hx, hb, hml, hown, hts⟩ (zs_length (own := own2) (tx := tx) (k := k2) (n := n) (OB := fun j => OB (j + 1)) (sz := sz) l hw (fun w h => (hgd w h).2) hn) ⟨⟨rfl, rfl, by show 1 + 1 ≤ _; omega, by show 8 + (1 + 11) + 20 ≤ _; omega, hwsG, List.mem_cons_self, hw2 _ (List.mem_of_getElem? (i := 8) rfl), hw2 _ (List.mem_of_getElem? (i := 6) rfl), by decide, fun sig h => ?_, hts _ (hgd _ hlk).1⟩, hw2 _ (List.mem_of_getElem? (i := 9) rfl), hw2 _ (List.mem_of_getElem? (i := 10) rfl)⟩ ⟨zs_blind, ?_, fun U hU hW => ⟨rfl, ?_⟩⟩ rfl rfl (by obtain ⟨lv, z1, _⟩ := h4; exact z1.1) rfl ?_ hd ⟨hrc, hrs⟩) ?_
  · have : (parseMethodDescriptor "()I").map (fun d => d.parameters.length) = some 0 := by decide +kernel
    rw [h] at this
    exact (Option.some.inj this).symm
  · obtain ⟨cell, z1, z2, z3, -⟩ := y2
    exact ⟨cell, z1, z2, z3⟩
  · rw [hU]
    exact zs_K_p.1 s U H hK0 hW
  · refine lv_room ?_
    rw [Bool.and_eq_true] at hS
    rw [zv_sum1 (zv_st_cat hS.2 h6), zv_st_len h6]
    exact Nat.le_of_ble_eq_true hS.1
  · exact (hg _ _ _ _ _).mp k H locs ls _ h1 h2 h3 h4 ⟨_, _, rfl, ⟨_, rfl, Int32.toInt_ofNat_of_lt (by omega)⟩, h6⟩
end ZVSTRN
/-! The place of a letter among the letters. -/
theorem zd37_0 : decode zxm37.2.1 0 = .ok (.iload_n 0, 1) := by decide +kernel
theorem zd37_1 : decode zxm37.2.1 1 = .ok (.iload_n 1, 1) := by decide +kernel
theorem zd37_2 : decode zxm37.2.1 2 = .ok (.if_icmp .gt 7, 3) := by decide +kernel
theorem zd37_5 : decode zxm37.2.1 5 = .ok (.iload_n 0, 1) := by decide +kernel
theorem zd37_6 : decode zxm37.2.1 6 = .ok (.goto 4, 3) := by decide +kernel
theorem zd37_9 : decode zxm37.2.1 9 = .ok (.iload_n 1, 1) := by decide +kernel
theorem zd37_10 : decode zxm37.2.1 10 = .ok (.ireturn, 1) := by decide +kernel
theorem zd50_0 : decode zxm50.2.1 0 = .ok (.aload_n 0, 1) := by decide +kernel
theorem zd50_1 : decode zxm50.2.1 1 = .ok (.iload_n 1, 1) := by decide +kernel
theorem zd50_2 : decode zxm50.2.1 2 = .ok (.iconst 0, 1) := by decide +kernel
theorem zd50_3 : decode zxm50.2.1 3 = .ok (.invokevirtual 633, 3) := by decide +kernel
theorem zd50_6 : decode zxm50.2.1 6 = .ok (.ireturn, 1) := by decide +kernel
theorem zd51_0 : decode zxm51.2.1 0 = .ok (.aload_n 0, 1) := by decide +kernel
theorem zd51_1 : decode zxm51.2.1 1 = .ok (.invokevirtual 492, 3) := by decide +kernel
theorem zd51_4 : decode zxm51.2.1 4 = .ok (.ifCond .eq 19, 3) := by decide +kernel
theorem zd51_7 : decode zxm51.2.1 7 = .ok (.aload_n 0, 1) := by decide +kernel
theorem zd51_8 : decode zxm51.2.1 8 = .ok (.getfield 9, 3) := by decide +kernel
theorem zd51_11 : decode zxm51.2.1 11 = .ok (.iload_n 1, 1) := by decide +kernel
theorem zd51_12 : decode zxm51.2.1 12 = .ok (.iload_n 2, 1) := by decide +kernel
theorem zd51_13 : decode zxm51.2.1 13 = .ok (.aload_n 0, 1) := by decide +kernel
theorem zd51_14 : decode zxm51.2.1 14 = .ok (.invokevirtual 505, 3) := by decide +kernel
theorem zd51_17 : decode zxm51.2.1 17 = .ok (.invokestatic 637, 3) := by decide +kernel
theorem zd51_20 : decode zxm51.2.1 20 = .ok (.goto 16, 3) := by decide +kernel
theorem zd51_36 : decode zxm51.2.1 36 = .ok (.ireturn, 1) := by decide +kernel
theorem zd52_0 : decode zxm52.2.1 0 = .ok (.getstatic 38, 3) := by decide +kernel
theorem zd52_3 : decode zxm52.2.1 3 = .ok (.ifCond .eq 14, 3) := by decide +kernel
theorem zd52_6 : decode zxm52.2.1 6 = .ok (.aload_n 0, 1) := by decide +kernel
theorem zd52_7 : decode zxm52.2.1 7 = .ok (.getfield 15, 3) := by decide +kernel
theorem zd52_10 : decode zxm52.2.1 10 = .ok (.ifCond .ne 7, 3) := by decide +kernel
theorem zd52_13 : decode zxm52.2.1 13 = .ok (.iconst 1, 1) := by decide +kernel
theorem zd52_14 : decode zxm52.2.1 14 = .ok (.goto 4, 3) := by decide +kernel
theorem zd52_18 : decode zxm52.2.1 18 = .ok (.ireturn, 1) := by decide +kernel
theorem zd53_0 : decode zxm53.2.1 0 = .ok (.iload_n 1, 1) := by decide +kernel
theorem zd53_1 : decode zxm53.2.1 1 = .ok (.invokestatic 88, 3) := by decide +kernel
theorem zd53_4 : decode zxm53.2.1 4 = .ok (.ifCond .ne 5, 3) := by decide +kernel
theorem zd53_7 : decode zxm53.2.1 7 = .ok (.iconst (-1), 1) := by decide +kernel
theorem zd53_8 : decode zxm53.2.1 8 = .ok (.ireturn, 1) := by decide +kernel
theorem zd53_9 : decode zxm53.2.1 9 = .ok (.iload_n 2, 1) := by decide +kernel
theorem zd53_10 : decode zxm53.2.1 10 = .ok (.iconst 0, 1) := by decide +kernel
theorem zd53_11 : decode zxm53.2.1 11 = .ok (.invokestatic 92, 3) := by decide +kernel
theorem zd53_14 : decode zxm53.2.1 14 = .ok (.istore_n 2, 1) := by decide +kernel
theorem zd53_15 : decode zxm53.2.1 15 = .ok (.iload_n 3, 1) := by decide +kernel
theorem zd53_16 : decode zxm53.2.1 16 = .ok (.aload_n 0, 1) := by decide +kernel
theorem zd53_17 : decode zxm53.2.1 17 = .ok (.arraylength, 1) := by decide +kernel
theorem zd53_18 : decode zxm53.2.1 18 = .ok (.invokestatic 38, 3) := by decide +kernel
theorem zd53_21 : decode zxm53.2.1 21 = .ok (.istore_n 3, 1) := by decide +kernel
theorem zd53_22 : decode zxm53.2.1 22 = .ok (.iload_n 2, 1) := by decide +kernel
theorem zd53_23 : decode zxm53.2.1 23 = .ok (.iload_n 3, 1) := by decide +kernel
theorem zd53_24 : decode zxm53.2.1 24 = .ok (.if_icmp .lt 5, 3) := by decide +kernel
theorem zd53_29 : decode zxm53.2.1 29 = .ok (.aload_n 0, 1) := by decide +kernel
theorem zd53_30 : decode zxm53.2.1 30 = .ok (.iload_n 1, 1) := by decide +kernel
theorem zd53_31 : decode zxm53.2.1 31 = .ok (.iload_n 2, 1) := by decide +kernel
theorem zd53_32 : decode zxm53.2.1 32 = .ok (.iload_n 3, 1) := by decide +kernel
theorem zd53_33 : decode zxm53.2.1 33 = .ok (.invokestatic 95, 3) := by decide +kernel
theorem zd53_36 : decode zxm53.2.1 36 = .ok (.ireturn, 1) := by decide +kernel
theorem zd54_0 : decode zxm54.2.1 0 = .ok (.iload_n 0, 1) := by decide +kernel
theorem zd54_1 : decode zxm54.2.1 1 = .ok (.ifCond .lt 14, 3) := by decide +kernel
theorem zd54_4 : decode zxm54.2.1 4 = .ok (.iload_n 0, 1) := by decide +kernel
theorem zd54_5 : decode zxm54.2.1 5 = .ok (.sipush 255, 3) := by decide +kernel
theorem zd54_8 : decode zxm54.2.1 8 = .ok (.if_icmp .gt 7, 3) := by decide +kernel
theorem zd54_11 : decode zxm54.2.1 11 = .ok (.iconst 1, 1) := by decide +kernel
theorem zd54_12 : decode zxm54.2.1 12 = .ok (.goto 4, 3) := by decide +kernel
theorem zd54_15 : decode zxm54.2.1 15 = .ok (.iconst 0, 1) := by decide +kernel
theorem zd54_16 : decode zxm54.2.1 16 = .ok (.ireturn, 1) := by decide +kernel
theorem zd55_0 : decode zxm55.2.1 0 = .ok (.iload_n 0, 1) := by decide +kernel
theorem zd55_1 : decode zxm55.2.1 1 = .ok (.iload_n 1, 1) := by decide +kernel
theorem zd55_2 : decode zxm55.2.1 2 = .ok (.if_icmp .lt 7, 3) := by decide +kernel
theorem zd55_5 : decode zxm55.2.1 5 = .ok (.iload_n 0, 1) := by decide +kernel
theorem zd55_6 : decode zxm55.2.1 6 = .ok (.goto 4, 3) := by decide +kernel
theorem zd55_9 : decode zxm55.2.1 9 = .ok (.iload_n 1, 1) := by decide +kernel
theorem zd55_10 : decode zxm55.2.1 10 = .ok (.ireturn, 1) := by decide +kernel
theorem zd56_0 : decode zxm56.2.1 0 = .ok (.iload_n 1, 1) := by decide +kernel
theorem zd56_1 : decode zxm56.2.1 1 = .ok (.i2b, 1) := by decide +kernel
theorem zd56_2 : decode zxm56.2.1 2 = .ok (.istore 4, 2) := by decide +kernel
theorem zd56_4 : decode zxm56.2.1 4 = .ok (.iload_n 2, 1) := by decide +kernel
theorem zd56_5 : decode zxm56.2.1 5 = .ok (.istore 5, 2) := by decide +kernel
theorem zd56_7 : decode zxm56.2.1 7 = .ok (.iload 5, 2) := by decide +kernel
theorem zd56_9 : decode zxm56.2.1 9 = .ok (.iload_n 3, 1) := by decide +kernel
theorem zd56_10 : decode zxm56.2.1 10 = .ok (.if_icmp .ge 21, 3) := by decide +kernel
theorem zd56_13 : decode zxm56.2.1 13 = .ok (.aload_n 0, 1) := by decide +kernel
theorem zd56_14 : decode zxm56.2.1 14 = .ok (.iload 5, 2) := by decide +kernel
theorem zd56_16 : decode zxm56.2.1 16 = .ok (.baload, 1) := by decide +kernel
theorem zd56_17 : decode zxm56.2.1 17 = .ok (.iload 4, 2) := by decide +kernel
theorem zd56_19 : decode zxm56.2.1 19 = .ok (.if_icmp .ne 6, 3) := by decide +kernel
theorem zd56_22 : decode zxm56.2.1 22 = .ok (.iload 5, 2) := by decide +kernel
theorem zd56_24 : decode zxm56.2.1 24 = .ok (.ireturn, 1) := by decide +kernel
theorem zd56_25 : decode zxm56.2.1 25 = .ok (.iinc 5 1, 3) := by decide +kernel
theorem zd56_28 : decode zxm56.2.1 28 = .ok (.goto (-21), 3) := by decide +kernel
theorem zd56_31 : decode zxm56.2.1 31 = .ok (.iconst (-1), 1) := by decide +kernel
theorem zd56_32 : decode zxm56.2.1 32 = .ok (.ireturn, 1) := by decide +kernel
set_option maxRecDepth 20000 in
theorem zl50 : z_lk z_TB "StarTales$LawReader" 0 103 zxm50.1 zxm50.2.1 zxm50.2.2.1 zxm50.2.2.2.1 zxm50.2.2.2.2.1 := ⟨zxh50.1, zxh50.2.1, zxh50.2.2.1, zxh50.2.2.2, (List.mem_filter.mpr ⟨List.mem_of_getElem? (i := 748) (by decide +kernel), rfl⟩), (List.mem_filter.mpr ⟨List.mem_of_getElem? (i := 749) (by decide +kernel), rfl⟩), (List.mem_filter.mpr ⟨List.mem_of_getElem? (i := 750) (by decide +kernel), rfl⟩)⟩
set_option maxRecDepth 20000 in
theorem zl51 : z_lk z_TB "java/lang/String" 0 633 zxm51.1 zxm51.2.1 zxm51.2.2.1 zxm51.2.2.2.1 zxm51.2.2.2.2.1 := ⟨zxh51.1, zxh51.2.1, zxh51.2.2.1, zxh51.2.2.2, (List.mem_filter.mpr ⟨List.mem_of_getElem? (i := 752) (by decide +kernel), rfl⟩), (List.mem_filter.mpr ⟨List.mem_of_getElem? (i := 753) (by decide +kernel), rfl⟩), (List.mem_filter.mpr ⟨List.mem_of_getElem? (i := 754) (by decide +kernel), rfl⟩)⟩
set_option maxRecDepth 20000 in
theorem zl52 : z_lk z_TB "java/lang/String" 0 492 zxm52.1 zxm52.2.1 zxm52.2.2.1 zxm52.2.2.2.1 zxm52.2.2.2.2.1 := ⟨zxh52.1, zxh52.2.1, zxh52.2.2.1, zxh52.2.2.2, (List.mem_filter.mpr ⟨List.mem_of_getElem? (i := 756) (by decide +kernel), rfl⟩), (List.mem_filter.mpr ⟨List.mem_of_getElem? (i := 757) (by decide +kernel), rfl⟩), (List.mem_filter.mpr ⟨List.mem_of_getElem? (i := 758) (by decide +kernel), rfl⟩)⟩
set_option maxRecDepth 20000 in
theorem zl_st : Cond.fieldLink "java/lang/String" 38 "java/lang/String" "COMPACT_STRINGS" "Z" ∈ z_TB := (List.mem_filter.mpr ⟨List.mem_of_getElem? (i := 262) (by decide +kernel), rfl⟩)
set_option maxRecDepth 20000 in
theorem zl_co : Cond.fieldLink "java/lang/String" 15 "java/lang/String" "coder" "B" ∈ z_TB := (List.mem_filter.mpr ⟨List.mem_of_getElem? (i := 2101) (by decide +kernel), rfl⟩)
set_option maxRecDepth 20000 in
theorem zl_va : Cond.fieldLink "java/lang/String" 9 "java/lang/String" "value" "[B" ∈ z_TB := (List.mem_filter.mpr ⟨List.mem_of_getElem? (i := 2100) (by decide +kernel), rfl⟩)
set_option maxRecDepth 20000 in
theorem zl_le : Cond.methodLink "java/lang/String" 505 zs_yL ∈ z_TB := (List.mem_filter.mpr ⟨List.mem_of_getElem? (i := 760) (by decide +kernel), rfl⟩)
def zs_find (b : Int) : Nat → Nat → Int
  | 0, _ => -1
  | m + 1, k => if (zs_by k).toInt = b then (k : Int) else zs_find b m (k + 1)
def zi_letter (c : Int) : Int := if 0 ≤ c ∧ c ≤ 255 then zs_find (zi_by c) 13 0 else -1
section ZVINDEX
variable {c : Int}
theorem kzh55s {y : zNL} (hy : zv_wf y = true) {x z : Int} : zv_OK z_TB z_cl z_KX y zxm55 (0, 0) (fun va F G => va = [.inl x, .inl z]) (fun va F G r F' G' => F' = F ∧ G' = G ∧ ∃ v, r = some v ∧ x ≤ v ∧ z ≤ v ∧ (v = x ∨ v = z)) := zv_meth (K := (z_KF16, z_KC16, z_KL16, z_KT16, [], [], [], none)) (FT := z_FT) (MT := z_MT) (n := 2) zxp55 (z_ks16 _ (fun _ h => List.mem_cons_of_mem _ h) _ _ _ _ (fun j r h _ => by cases h)) (fun _ _ => zs_KX_p) hy (fun va F G h => by obtain ⟨rfl, _⟩ := h; rfl) (fun va F G h => by obtain ⟨rfl, _⟩ := h; rfl) rfl fun good va F G hB hret hvret hP => by
  subst hP
  refine zv_ild hB zd55_0 rfl rfl ?_
  refine zv_ild hB zd55_1 rfl rfl ?_
  refine zv_clt hB zd55_2 rfl (fun h2 => ?_) (fun h2 => ?_)
  · refine zv_ild hB zd55_9 rfl rfl ?_
    exact hret _ _ _ _ _ zd55_10 trivial ⟨rfl, rfl, _, rfl, by omega, by omega, by omega⟩
  · refine zv_ild hB zd55_5 rfl rfl ?_
    refine zv_goto hB zd55_6 rfl ?_
    exact hret _ _ _ _ _ zd55_10 trivial ⟨rfl, rfl, _, rfl, by omega, by omega, by omega⟩
theorem kzh37s {y : zNL} (hy : zv_wf y = true) {x z : Int} : zv_OK z_TB z_cl z_KX y zxm37 (0, 0) (fun va F G => va = [.inl x, .inl z]) (fun va F G r F' G' => F' = F ∧ G' = G ∧ ∃ v, r = some v ∧ v ≤ x ∧ v ≤ z ∧ (v = x ∨ v = z)) := zv_meth (K := (z_KF16, z_KC16, z_KL16, z_KT16, [], [], [], none)) (FT := z_FT) (MT := z_MT) (n := 2) zxp37 (z_ks16 _ (fun _ h => List.mem_cons_of_mem _ h) _ _ _ _ (fun j r h _ => by cases h)) (fun _ _ => zs_KX_p) hy (fun va F G h => by obtain ⟨rfl, _⟩ := h; rfl) (fun va F G h => by obtain ⟨rfl, _⟩ := h; rfl) rfl fun good va F G hB hret hvret hP => by
  subst hP
  refine zv_ild hB zd37_0 rfl rfl ?_
  refine zv_ild hB zd37_1 rfl rfl ?_
  refine zv_cgt hB zd37_2 rfl (fun h2 => ?_) (fun h2 => ?_)
  · refine zv_ild hB zd37_9 rfl rfl ?_
    exact hret _ _ _ _ _ zd37_10 trivial ⟨rfl, rfl, _, rfl, by omega, by omega, by omega⟩
  · refine zv_ild hB zd37_5 rfl rfl ?_
    refine zv_goto hB zd37_6 rfl ?_
    exact hret _ _ _ _ _ zd37_10 trivial ⟨rfl, rfl, _, rfl, by omega, by omega, by omega⟩
theorem kzh54 {y : zNL} (hy : zv_wf y = true)  : zv_OK z_TB z_cl z_KX y zxm54 (0, 0) (fun va F G => va = [.inl c]) (fun va F G r F' G' => F' = F ∧ G' = G ∧ r = some (if 0 ≤ c ∧ c ≤ 255 then (1 : Int) else 0)) := zv_meth (K := (z_KF18, z_KC18, z_KL18, z_KT18, [], [], [], none)) (FT := z_FT) (MT := z_MT) (n := 1) zxp54 (z_ks18 _ (fun _ h => List.mem_cons_of_mem _ h) _ _ _ _ (fun j r h _ => by cases h)) (fun _ _ => zs_KX_p) hy (fun va F G h => by obtain ⟨rfl, _⟩ := h; rfl) (fun va F G h => by obtain ⟨rfl, _⟩ := h; rfl) rfl fun good va F G hB hret hvret hP => by
  subst hP
  refine zv_ild hB zd54_0 rfl rfl ?_
  refine zv_zlt hB zd54_1 rfl (fun h1 => ?_) (fun h1 => ?_)
  · refine zv_con hB zd54_15 rfl ?_
    refine hret _ _ _ _ _ zd54_16 (by constructor <;> decide) ⟨rfl, rfl, ?_⟩
    first | rw [if_pos (by omega)] | rw [if_neg (by omega)]
  · refine zv_ild hB zd54_4 rfl rfl ?_
    refine zv_con hB zd54_5 rfl ?_
    refine zv_cgt hB zd54_8 rfl (fun h8 => ?_) (fun h8 => ?_)
    · refine zv_con hB zd54_15 rfl ?_
      refine hret _ _ _ _ _ zd54_16 (by constructor <;> decide) ⟨rfl, rfl, ?_⟩
      first | rw [if_pos (by omega)] | rw [if_neg (by omega)]
    · refine zv_con hB zd54_11 rfl ?_
      refine zv_goto hB zd54_12 rfl ?_
      refine hret _ _ _ _ _ zd54_16 (by constructor <;> decide) ⟨rfl, rfl, ?_⟩
      first | rw [if_pos (by omega)] | rw [if_neg (by omega)]
theorem kzh56 {y : zNL} (hy : zv_wf y = true)  : zv_OK z_TB z_cl z_KX y zxm56 (0, 0) (fun va F G => va = [.inr 903, .inl c, .inl 0, .inl 13]) (fun va F G r F' G' => F' = F ∧ G' = G ∧ r = some (zs_find (zi_by c) 13 0)) := zv_meth (K := (z_KF18, z_KC18, z_KL18, z_KT18, [], [], [], none)) (FT := z_FT) (MT := z_MT) (n := 4) zxp56 (z_ks18 _ (fun _ h => List.mem_cons_of_mem _ h) _ _ _ _ (fun j r h _ => by cases h)) (fun _ _ => zs_KX_p) hy (fun va F G h => by obtain ⟨rfl, _⟩ := h; rfl) (fun va F G h => by obtain ⟨rfl, _⟩ := h; rfl) rfl fun good va F G hB hret hvret hP => by
  subst hP
  have key : ∀ (m k : Nat), m + k = 13 → zs_find (zi_by c) m k = zs_find (zi_by c) 13 0 → good 7 [.inr 903, .inl c, .inl 0, .inl 13, .inl (zi_by c), .inl k] [] F G := by
    intro m
    induction m with
    | zero =>
      intro k c1 c2
      refine zv_ild hB zd56_7 rfl rfl ?_
      refine zv_ild hB zd56_9 rfl rfl ?_
      refine zv_cge hB zd56_10 rfl (fun h10 => ?_) (fun h10 => ?_)
      · refine zv_con hB zd56_31 rfl ?_
        exact hret _ _ _ _ _ zd56_32 trivial ⟨rfl, rfl, by rw [← c2]; rfl⟩
      · exfalso; omega
    | succ m ih =>
      intro k c1 c2
      refine zv_ild hB zd56_7 rfl rfl ?_
      refine zv_ild hB zd56_9 rfl rfl ?_
      refine zv_cge hB zd56_10 rfl (fun h10 => ?_) (fun h10 => ?_)
      · exfalso; omega
      · refine zv_ald hB zd56_13 rfl rfl rfl ?_
        refine zv_ild hB zd56_14 rfl rfl ?_
        refine zkt_bald hB (by omega) (by show (k : Int) < ((13 : Nat) : Int); omega) zd56_16 ?_
        refine zv_ild hB zd56_17 rfl rfl ?_
        refine zv_cne hB zd56_19 rfl (fun h19 => ?_) (fun h19 => ?_)
        · refine zv_iinc hB zd56_25 rfl rfl (by omega) (by omega) ?_
          refine zv_goto hB zd56_28 rfl ?_
          refine ih (k + 1) (by omega) ?_
          rw [← c2]
          show _ = (if (zs_by k).toInt = zi_by c then (k : Int) else zs_find (zi_by c) m (k + 1))
          rw [if_neg (by rw [Int.toNat_natCast] at h19; exact h19)]
        · refine zv_ild hB zd56_22 rfl rfl ?_
          refine hret _ _ _ _ _ zd56_24 trivial ⟨rfl, rfl, ?_⟩
          rw [← c2]
          show _ = some (if (zs_by k).toInt = zi_by c then (k : Int) else zs_find (zi_by c) m (k + 1))
          rw [if_pos (by rw [Int.toNat_natCast] at h19; exact h19)]
  refine zv_ild hB zd56_0 rfl rfl ?_
  refine zv_i2b hB zd56_1 ?_
  refine zv_ist hB zd56_2 rfl rfl rfl ?_
  refine zv_ild hB zd56_4 rfl rfl ?_
  refine zv_ist hB zd56_5 rfl rfl rfl ?_
  exact key 13 0 rfl rfl
theorem kzh53 {y : zNL} (hy : zv_wf y = true)  : zv_OK z_TB z_cl z_KX y zxm53 (1, 60) (fun va F G => va = [.inr 903, .inl c, .inl 0, .inl 13]) (fun va F G r F' G' => F' = F ∧ G' = G ∧ r = some (zi_letter c)) := zv_meth (K := (z_KF18, z_KC18, z_KL18, z_KT18, [], [], [], none)) (FT := z_FT) (MT := z_MT) (n := 4) zxp53 (z_ks18 _ (fun _ h => List.mem_cons_of_mem _ h) _ _ _ _ (fun j r h _ => by cases h)) (fun _ _ => zs_KX_p) hy (fun va F G h => by obtain ⟨rfl, _⟩ := h; rfl) (fun va F G h => by obtain ⟨rfl, _⟩ := h; rfl) rfl fun good va F G hB hret hvret hP => by
  subst hP
  refine zv_ild hB zd53_0 rfl rfl ?_
  refine zv_it1 hB (kzh54 hy) zd53_1 zxt54 rfl rfl (fun r1 F1 G1 hq1 => ?_)
  obtain ⟨rfl, rfl, rfl⟩ := hq1
  by_cases hc : 0 ≤ c ∧ c ≤ 255
  rotate_left
  · rw [if_neg hc]
    refine zv_zne hB zd53_4 rfl (fun h4 => ?_) (fun h4 => ?_)
    · exfalso; omega
    · refine zv_con hB zd53_7 rfl ?_
      exact hret _ _ _ _ _ zd53_8 trivial ⟨rfl, rfl, by unfold zi_letter; rw [if_neg hc]⟩
  · rw [if_pos hc]
    refine zv_zne hB zd53_4 rfl (fun h4 => ?_) (fun h4 => ?_)
    · refine zv_ild hB zd53_9 rfl rfl ?_
      refine zv_con hB zd53_10 rfl ?_
      refine zv_it2 hB (kzh55s hy) zd53_11 zxt55 rfl rfl (fun r11 F11 G11 hq11 => ?_)
      obtain ⟨rfl, rfl, v, rfl, v1, v2, v3⟩ := hq11
      refine zv_ist hB zd53_14 rfl rfl rfl ?_
      refine zv_ild hB zd53_15 rfl rfl ?_
      refine zv_ald hB zd53_16 rfl rfl rfl ?_
      refine zkt_len hB (by omega) zd53_17 ?_
      refine zv_it2 hB (kzh37s hy) zd53_18 zxt37 rfl rfl (fun r18 F18 G18 hq18 => ?_)
      obtain ⟨rfl, rfl, u, rfl, u1, u2, u3⟩ := hq18
      refine zv_ist hB zd53_21 rfl rfl rfl ?_
      refine zv_ild hB zd53_22 rfl rfl ?_
      refine zv_ild hB zd53_23 rfl rfl ?_
      refine zv_clt hB zd53_24 rfl (fun h24 => ?_) (fun h24 => ?_)
      · refine zv_ald hB zd53_29 rfl rfl rfl ?_
        refine zv_ild hB zd53_30 rfl rfl ?_
        refine zv_ild hB zd53_31 rfl rfl ?_
        refine zv_ild hB zd53_32 rfl rfl ?_
        refine zv_it4 hB (kzh56 hy (c := c)) zd53_33 zxt56 rfl (by rw [show v = 0 by omega, show u = 13 by omega]) (fun r33 F33 G33 hq33 => ?_)
        obtain ⟨rfl, rfl, rfl⟩ := hq33
        exact hret _ _ _ _ _ zd53_36 trivial ⟨rfl, rfl, by unfold zi_letter; rw [if_pos hc]⟩
      · exfalso; omega
    · exfalso; omega
theorem kzh52 {y : zNL} (hy : zv_wf y = true)  : zv_OK z_TB z_cl z_KX y zxm52 (0, 0) (fun va F G => va = [.inr 902]) (fun va F G r F' G' => F' = F ∧ G' = G ∧ r = some 1) := zv_meth (K := (z_KF17, z_KC17, z_KL17, z_KT17, [], [], [], none)) (FT := z_FT) (MT := z_MT) (n := 1) zxp52 (z_ks17 _ (fun _ h => List.mem_cons_of_mem _ h) _ _ _ _ (fun j r h _ => by cases h)) (fun _ _ => zs_KX_p) hy (fun va F G h => by obtain ⟨rfl, _⟩ := h; rfl) (fun va F G h => by obtain ⟨rfl, _⟩ := h; rfl) rfl fun good va F G hB hret hvret hP => by
  subst hP
  refine zkt_stat hB zl_st zd52_0 ?_
  refine zv_zeq hB zd52_3 rfl (fun h3 => ?_) (fun h3 => ?_)
  · exfalso; omega
  · refine zv_ald hB zd52_6 rfl rfl rfl ?_
    refine zkt_coder hB zl_co zd52_7 ?_
    refine zv_zne hB zd52_10 rfl (fun h10 => ?_) (fun h10 => ?_)
    · exfalso; omega
    · refine zv_con hB zd52_13 rfl ?_
      refine zv_goto hB zd52_14 rfl ?_
      exact hret _ _ _ _ _ zd52_18 (by constructor <;> decide) ⟨rfl, rfl, rfl⟩
theorem kzh51 {y : zNL} (hy : zv_wf y = true)  : zv_OK z_TB z_cl z_KX y zxm51 (2, 120) (fun va F G => va = [.inr 902, .inl c, .inl 0]) (fun va F G r F' G' => F' = F ∧ G' = G ∧ r = some (zi_letter c)) := zv_meth (K := (z_KF17, z_KC17, z_KL17, z_KT17, [], [], [], none)) (FT := z_FT) (MT := z_MT) (n := 3) zxp51 (z_ks17 _ (fun _ h => List.mem_cons_of_mem _ h) _ _ _ _ (fun j r h _ => by cases h)) (fun _ _ => zs_KX_p) hy (fun va F G h => by obtain ⟨rfl, _⟩ := h; rfl) (fun va F G h => by obtain ⟨rfl, _⟩ := h; rfl) rfl fun good va F G hB hret hvret hP => by
  subst hP
  refine zv_ald hB zd51_0 rfl rfl rfl ?_
  refine zkt_inv (va := []) hB (kzh52 hy) zl52 rfl zd51_1 rfl rfl (by decide) (by decide) rfl (fun r1 F1 G1 hq1 => ?_)
  obtain ⟨rfl, rfl, rfl⟩ := hq1
  refine zv_zeq hB zd51_4 rfl (fun h4 => ?_) (fun h4 => ?_)
  · exfalso; omega
  · refine zv_ald hB zd51_7 rfl rfl rfl ?_
    refine zkt_value hB zl_va zd51_8 ?_
    refine zv_ild hB zd51_11 rfl rfl ?_
    refine zv_ild hB zd51_12 rfl rfl ?_
    refine zv_ald hB zd51_13 rfl rfl rfl ?_
    refine zkt_length hB zs_wt (by omega) zl_le zd51_14 rfl (by decide) (by decide) ?_
    refine zv_it4 hB (kzh53 hy (c := c)) zd51_17 zxt53 rfl rfl (fun r17 F17 G17 hq17 => ?_)
    obtain ⟨rfl, rfl, rfl⟩ := hq17
    refine zv_goto hB zd51_20 rfl ?_
    exact hret _ _ _ _ _ zd51_36 trivial ⟨rfl, rfl, rfl⟩
theorem kzh50 {y : zNL} (hy : zv_wf y = true)  : zv_OK z_TB z_cl z_KX y zxm50 (3, 180) (fun va F G => va = [.inr 902, .inl c]) (fun va F G r F' G' => F' = F ∧ G' = G ∧ r = some (zi_letter c)) := zv_meth (K := (z_KF17, z_KC17, z_KL17, z_KT17, [], [], [], none)) (FT := z_FT) (MT := z_MT) (n := 2) zxp50 (z_ks17 _ (fun _ h => List.mem_cons_of_mem _ h) _ _ _ _ (fun j r h _ => by cases h)) (fun _ _ => zs_KX_p) hy (fun va F G h => by obtain ⟨rfl, _⟩ := h; rfl) (fun va F G h => by obtain ⟨rfl, _⟩ := h; rfl) rfl fun good va F G hB hret hvret hP => by
  subst hP
  refine zv_ald hB zd50_0 rfl rfl rfl ?_
  refine zv_ild hB zd50_1 rfl rfl ?_
  refine zv_con hB zd50_2 rfl ?_
  refine zkt_inv (va := [.inl c, .inl 0]) hB (kzh51 hy) zl51 rfl zd50_3 rfl rfl (by decide) (by decide) rfl (fun r1 F1 G1 hq1 => ?_)
  obtain ⟨rfl, rfl, rfl⟩ := hq1
  exact hret _ _ _ _ _ zd50_6 trivial ⟨rfl, rfl, rfl⟩
end ZVINDEX
section ZVLET
variable {y : zNL} {mm : zM} {K : zK} {rm : Nat × Nat} {good : Nat → List zNV → List zNV → List zNV → List (Int → Int) → Prop}
variable {pc : Nat} {L S : List zNV} {F : List zNV} {G : List (Int → Int)}
theorem zv_letter (hB : zv_B z_cl z_FT z_KX z_TB z_MT y mm K rm good) (hy : zv_wf y = true) (hm : mm.1.cls = "StarTales$LawReader") (hS : (Nat.ble S.length 8 && S.all zv_n1) = true) {a : Int} (hd : decode mm.2.1 pc = .ok (.invokevirtual 103, 3)) (h1 : 6 ≤ rm.1) (h2 : 360 ≤ rm.2) (k : good (pc + 3) L (.inl (zi_letter a) :: S) F G) : good pc L (.inl a :: .inr 902 :: S) F G := by
  refine zkt_inv (va := [.inl a]) (S := S) hB (kzh50 hy) (by rw [hm]; exact zl50) rfl hd rfl hS (by show 3 + 1 ≤ _; omega) (by show 8 + (2 + 11) + 180 ≤ _; omega) rfl (fun r F' G' hq => ?_)
  obtain ⟨rfl, rfl, rfl⟩ := hq
  exact k
end ZVLET
end
section
/-! Methods as functions, and that they do what these do. -/
/-! X_isWithin (III)Z -/
-- names: 
-- fields: ; arrays: ; out: [('ret', None)]
abbrev zy_X_isWithin : zNL := (0, [], [], [], [])
theorem zyw_X_isWithin : zv_wf zy_X_isWithin = true := by decide +kernel
theorem zye_X_isWithin : zv_ek2 zy_X_isWithin = true := by decide +kernel
def zf_X_isWithin (x0 : Int) (x1 : Int) (x2 : Int) : Option (Int) := if x0 < x1 then (some 0) else (if x2 < x0 then (some 0) else (some 1))
theorem zd15_0 : decode zxm15.2.1 0 = .ok (.iload_n 0, 1) := by decide +kernel
theorem zd15_1 : decode zxm15.2.1 1 = .ok (.iload_n 1, 1) := by decide +kernel
theorem zd15_2 : decode zxm15.2.1 2 = .ok (.if_icmp .lt 12, 3) := by decide +kernel
theorem zd15_5 : decode zxm15.2.1 5 = .ok (.iload_n 0, 1) := by decide +kernel
theorem zd15_6 : decode zxm15.2.1 6 = .ok (.iload_n 2, 1) := by decide +kernel
theorem zd15_7 : decode zxm15.2.1 7 = .ok (.if_icmp .gt 7, 3) := by decide +kernel
theorem zd15_10 : decode zxm15.2.1 10 = .ok (.iconst 1, 1) := by decide +kernel
theorem zd15_11 : decode zxm15.2.1 11 = .ok (.goto 4, 3) := by decide +kernel
theorem zd15_14 : decode zxm15.2.1 14 = .ok (.iconst 0, 1) := by decide +kernel
theorem zd15_15 : decode zxm15.2.1 15 = .ok (.ireturn, 1) := by decide +kernel
theorem zt_X_isWithin {x0 : Int} {x1 : Int} {x2 : Int} {o : Int} (h : zf_X_isWithin x0 x1 x2 = some o) : zv_Fn z_TB z_cl z_KX zy_X_isWithin zxm15 (0, 0) [.inl x0, .inl x1, .inl x2] [] [] (some o) [] [] := zv_meth (K := (z_KF0, z_KC0, z_KL0, z_KT0, [], [], [], none)) (FT := z_FT) (MT := z_MT) (n := 3) zxp15 (z_ks0 _ (fun _ h => List.mem_cons_of_mem _ h) _ _ _ _ (fun j r h _ => by cases h)) (fun _ _ => zs_KX_p) zyw_X_isWithin (fun va F G h => by obtain ⟨rfl, _⟩ := h; rfl) (fun va F G h => by obtain ⟨rfl, _⟩ := h; rfl) rfl fun good va F G hB hret hvret hP => by
  obtain ⟨rfl, rfl, rfl⟩ := hP
  unfold zf_X_isWithin at h
  refine zv_ild hB zd15_0 rfl rfl ?_
  refine zv_ild hB zd15_1 rfl rfl ?_
  refine zv_clt hB zd15_2 rfl (fun hc1 => ?_) (fun hc1 => ?_)
  · rw [if_pos hc1] at h
    refine zv_con hB zd15_14 rfl ?_
    have hw := Option.some.inj h
    subst hw
    exact hret _ _ _ _ _ zd15_15 (by constructor <;> decide) ⟨rfl, rfl, rfl⟩
  · rw [if_neg (Int.not_lt.mpr hc1)] at h
    refine zv_ild hB zd15_5 rfl rfl ?_
    refine zv_ild hB zd15_6 rfl rfl ?_
    refine zv_cgt hB zd15_7 rfl (fun hc2 => ?_) (fun hc2 => ?_)
    · rw [if_pos hc2] at h
      refine zv_con hB zd15_14 rfl ?_
      have hw := Option.some.inj h
      subst hw
      exact hret _ _ _ _ _ zd15_15 (by constructor <;> decide) ⟨rfl, rfl, rfl⟩
    · rw [if_neg (Int.not_lt.mpr hc2)] at h
      refine zv_con hB zd15_10 rfl ?_
      refine zv_goto hB zd15_11 rfl ?_
      have hw := Option.some.inj h
      subst hw
      exact hret _ _ _ _ _ zd15_15 (by constructor <;> decide) ⟨rfl, rfl, rfl⟩
/-! X_isPlace (II)Z -/
-- names: 
-- fields: ; arrays: ; out: [('ret', None)]
abbrev zy_X_isPlace : zNL := (0, [], [], [], [])
theorem zyw_X_isPlace : zv_wf zy_X_isPlace = true := by decide +kernel
theorem zye_X_isPlace : zv_ek2 zy_X_isPlace = true := by decide +kernel
def zf_X_isPlace (x0 : Int) (x1 : Int) : Option (Int) := if x0 < 0 then (some 0) else (if x0 < 24 then (if x1 < 0 then (some 0) else (if x1 < 12 then (some 1) else (some 0))) else (some 0))
theorem zd16_0 : decode zxm16.2.1 0 = .ok (.iload_n 0, 1) := by decide +kernel
theorem zd16_1 : decode zxm16.2.1 1 = .ok (.ifCond .lt 23, 3) := by decide +kernel
theorem zd16_4 : decode zxm16.2.1 4 = .ok (.iload_n 0, 1) := by decide +kernel
theorem zd16_5 : decode zxm16.2.1 5 = .ok (.bipush 24, 2) := by decide +kernel
theorem zd16_7 : decode zxm16.2.1 7 = .ok (.if_icmp .ge 17, 3) := by decide +kernel
theorem zd16_10 : decode zxm16.2.1 10 = .ok (.iload_n 1, 1) := by decide +kernel
theorem zd16_11 : decode zxm16.2.1 11 = .ok (.ifCond .lt 13, 3) := by decide +kernel
theorem zd16_14 : decode zxm16.2.1 14 = .ok (.iload_n 1, 1) := by decide +kernel
theorem zd16_15 : decode zxm16.2.1 15 = .ok (.bipush 12, 2) := by decide +kernel
theorem zd16_17 : decode zxm16.2.1 17 = .ok (.if_icmp .ge 7, 3) := by decide +kernel
theorem zd16_20 : decode zxm16.2.1 20 = .ok (.iconst 1, 1) := by decide +kernel
theorem zd16_21 : decode zxm16.2.1 21 = .ok (.goto 4, 3) := by decide +kernel
theorem zd16_24 : decode zxm16.2.1 24 = .ok (.iconst 0, 1) := by decide +kernel
theorem zd16_25 : decode zxm16.2.1 25 = .ok (.ireturn, 1) := by decide +kernel
theorem zt_X_isPlace {x0 : Int} {x1 : Int} {o : Int} (h : zf_X_isPlace x0 x1 = some o) : zv_Fn z_TB z_cl z_KX zy_X_isPlace zxm16 (0, 0) [.inl x0, .inl x1] [] [] (some o) [] [] := zv_meth (K := (z_KF0, z_KC0, z_KL0, z_KT0, [], [], [], none)) (FT := z_FT) (MT := z_MT) (n := 2) zxp16 (z_ks0 _ (fun _ h => List.mem_cons_of_mem _ h) _ _ _ _ (fun j r h _ => by cases h)) (fun _ _ => zs_KX_p) zyw_X_isPlace (fun va F G h => by obtain ⟨rfl, _⟩ := h; rfl) (fun va F G h => by obtain ⟨rfl, _⟩ := h; rfl) rfl fun good va F G hB hret hvret hP => by
  obtain ⟨rfl, rfl, rfl⟩ := hP
  unfold zf_X_isPlace at h
  refine zv_ild hB zd16_0 rfl rfl ?_
  refine zv_zlt hB zd16_1 rfl (fun hc1 => ?_) (fun hc1 => ?_)
  · rw [if_pos hc1] at h
    refine zv_con hB zd16_24 rfl ?_
    have hw := Option.some.inj h
    subst hw
    exact hret _ _ _ _ _ zd16_25 (by constructor <;> decide) ⟨rfl, rfl, rfl⟩
  · rw [if_neg (Int.not_lt.mpr hc1)] at h
    refine zv_ild hB zd16_4 rfl rfl ?_
    refine zv_con hB zd16_5 rfl ?_
    refine zv_cge hB zd16_7 rfl (fun hc2 => ?_) (fun hc2 => ?_)
    · rw [if_neg (Int.not_lt.mpr hc2)] at h
      refine zv_con hB zd16_24 rfl ?_
      have hw := Option.some.inj h
      subst hw
      exact hret _ _ _ _ _ zd16_25 (by constructor <;> decide) ⟨rfl, rfl, rfl⟩
    · rw [if_pos hc2] at h
      refine zv_ild hB zd16_10 rfl rfl ?_
      refine zv_zlt hB zd16_11 rfl (fun hc3 => ?_) (fun hc3 => ?_)
      · rw [if_pos hc3] at h
        refine zv_con hB zd16_24 rfl ?_
        have hw := Option.some.inj h
        subst hw
        exact hret _ _ _ _ _ zd16_25 (by constructor <;> decide) ⟨rfl, rfl, rfl⟩
      · rw [if_neg (Int.not_lt.mpr hc3)] at h
        refine zv_ild hB zd16_14 rfl rfl ?_
        refine zv_con hB zd16_15 rfl ?_
        refine zv_cge hB zd16_17 rfl (fun hc4 => ?_) (fun hc4 => ?_)
        · rw [if_neg (Int.not_lt.mpr hc4)] at h
          refine zv_con hB zd16_24 rfl ?_
          have hw := Option.some.inj h
          subst hw
          exact hret _ _ _ _ _ zd16_25 (by constructor <;> decide) ⟨rfl, rfl, rfl⟩
        · rw [if_pos hc4] at h
          refine zv_con hB zd16_20 rfl ?_
          refine zv_goto hB zd16_21 rfl ?_
          have hw := Option.some.inj h
          subst hw
          exact hret _ _ _ _ _ zd16_25 (by constructor <;> decide) ⟨rfl, rfl, rfl⟩
/-! X_star (IIII)Z -/
-- names: 0 StarTales('arg', 0), 1 Sky(0, 0, 0), 2 (0, 24)(1, 1, 1), 3 (0, 24)(1, 1, 2), 4 (0, 24)(1, 1, 3), 5 (0, 24)(1, 1, 4), 6 (0, 24)(1, 1, 5)
-- fields: f0 = 1.told_; arrays: g0 = 2, g1 = 3, g2 = 4, g3 = 5, g4 = 6; out: [('ret', None), ('f', 0), ('g', 0), ('g', 1), ('g', 2), ('g', 3), ('g', 4)]
abbrev zy_X_star : zNL := (7, [(0, 0), (1, 1)], [(1, 1, 0, 0)], [(0, 0, 0, 1), (1, 1, 1, 2), (1, 1, 2, 3), (1, 1, 3, 4), (1, 1, 4, 5), (1, 1, 5, 6)], [(2, 0, 24, 0), (3, 0, 24, 1), (4, 0, 24, 2), (5, 0, 24, 3), (6, 0, 24, 4)])
theorem zyw_X_star : zv_wf zy_X_star = true := by decide +kernel
theorem zye_X_star : zv_ek2 zy_X_star = true := by decide +kernel
def zf_X_star (x1 : Int) (x2 : Int) (x3 : Int) (x4 : Int) (f0 : Int) (g0 : (Int → Int)) (g1 : (Int → Int)) (g2 : (Int → Int)) (g3 : (Int → Int)) (g4 : (Int → Int)) : Option (Int × Int × (Int → Int) × (Int → Int) × (Int → Int) × (Int → Int) × (Int → Int)) := (zf_X_isWithin x1 0 23).bind fun r1 => (if r1 = 0 then (some (0, f0, g0, g1, g2, g3, g4)) else ((zf_X_isPlace x2 x3).bind fun r3 => (if r3 = 0 then (some (0, f0, g0, g1, g2, g3, g4)) else ((zf_X_isWithin x4 1 9).bind fun r5 => (if r5 = 0 then (some (0, f0, g0, g1, g2, g3, g4)) else (cond (zi_ix x1 24) (some (1, (zi_or f0 (zi_shl 1 x1)), (zv_up g0 x1 x2), (zv_up g1 x1 x3), (zv_up g2 x1 x4), (zv_up g3 x1 0), (zv_up g4 x1 0))) none))))))
theorem zd14_0 : decode zxm14.2.1 0 = .ok (.iload_n 1, 1) := by decide +kernel
theorem zd14_1 : decode zxm14.2.1 1 = .ok (.iconst 0, 1) := by decide +kernel
theorem zd14_2 : decode zxm14.2.1 2 = .ok (.bipush 23, 2) := by decide +kernel
theorem zd14_4 : decode zxm14.2.1 4 = .ok (.invokestatic 126, 3) := by decide +kernel
theorem zd14_7 : decode zxm14.2.1 7 = .ok (.ifCond .eq 22, 3) := by decide +kernel
theorem zd14_10 : decode zxm14.2.1 10 = .ok (.iload_n 2, 1) := by decide +kernel
theorem zd14_11 : decode zxm14.2.1 11 = .ok (.iload_n 3, 1) := by decide +kernel
theorem zd14_12 : decode zxm14.2.1 12 = .ok (.invokestatic 130, 3) := by decide +kernel
theorem zd14_15 : decode zxm14.2.1 15 = .ok (.ifCond .eq 14, 3) := by decide +kernel
theorem zd14_18 : decode zxm14.2.1 18 = .ok (.iload 4, 2) := by decide +kernel
theorem zd14_20 : decode zxm14.2.1 20 = .ok (.iconst 1, 1) := by decide +kernel
theorem zd14_21 : decode zxm14.2.1 21 = .ok (.bipush 9, 2) := by decide +kernel
theorem zd14_23 : decode zxm14.2.1 23 = .ok (.invokestatic 126, 3) := by decide +kernel
theorem zd14_26 : decode zxm14.2.1 26 = .ok (.ifCond .ne 5, 3) := by decide +kernel
theorem zd14_29 : decode zxm14.2.1 29 = .ok (.iconst 0, 1) := by decide +kernel
theorem zd14_30 : decode zxm14.2.1 30 = .ok (.ireturn, 1) := by decide +kernel
theorem zd14_31 : decode zxm14.2.1 31 = .ok (.aload_n 0, 1) := by decide +kernel
theorem zd14_32 : decode zxm14.2.1 32 = .ok (.getfield 10, 3) := by decide +kernel
theorem zd14_35 : decode zxm14.2.1 35 = .ok (.dup, 1) := by decide +kernel
theorem zd14_36 : decode zxm14.2.1 36 = .ok (.getfield 134, 3) := by decide +kernel
theorem zd14_39 : decode zxm14.2.1 39 = .ok (.iconst 1, 1) := by decide +kernel
theorem zd14_40 : decode zxm14.2.1 40 = .ok (.iload_n 1, 1) := by decide +kernel
theorem zd14_41 : decode zxm14.2.1 41 = .ok (.ishl, 1) := by decide +kernel
theorem zd14_42 : decode zxm14.2.1 42 = .ok (.ior, 1) := by decide +kernel
theorem zd14_43 : decode zxm14.2.1 43 = .ok (.putfield 134, 3) := by decide +kernel
theorem zd14_46 : decode zxm14.2.1 46 = .ok (.aload_n 0, 1) := by decide +kernel
theorem zd14_47 : decode zxm14.2.1 47 = .ok (.getfield 10, 3) := by decide +kernel
theorem zd14_50 : decode zxm14.2.1 50 = .ok (.getfield 138, 3) := by decide +kernel
theorem zd14_53 : decode zxm14.2.1 53 = .ok (.iload_n 1, 1) := by decide +kernel
theorem zd14_54 : decode zxm14.2.1 54 = .ok (.iload_n 2, 1) := by decide +kernel
theorem zd14_55 : decode zxm14.2.1 55 = .ok (.iastore, 1) := by decide +kernel
theorem zd14_56 : decode zxm14.2.1 56 = .ok (.aload_n 0, 1) := by decide +kernel
theorem zd14_57 : decode zxm14.2.1 57 = .ok (.getfield 10, 3) := by decide +kernel
theorem zd14_60 : decode zxm14.2.1 60 = .ok (.getfield 141, 3) := by decide +kernel
theorem zd14_63 : decode zxm14.2.1 63 = .ok (.iload_n 1, 1) := by decide +kernel
theorem zd14_64 : decode zxm14.2.1 64 = .ok (.iload_n 3, 1) := by decide +kernel
theorem zd14_65 : decode zxm14.2.1 65 = .ok (.iastore, 1) := by decide +kernel
theorem zd14_66 : decode zxm14.2.1 66 = .ok (.aload_n 0, 1) := by decide +kernel
theorem zd14_67 : decode zxm14.2.1 67 = .ok (.getfield 10, 3) := by decide +kernel
theorem zd14_70 : decode zxm14.2.1 70 = .ok (.getfield 144, 3) := by decide +kernel
theorem zd14_73 : decode zxm14.2.1 73 = .ok (.iload_n 1, 1) := by decide +kernel
theorem zd14_74 : decode zxm14.2.1 74 = .ok (.iload 4, 2) := by decide +kernel
theorem zd14_76 : decode zxm14.2.1 76 = .ok (.iastore, 1) := by decide +kernel
theorem zd14_77 : decode zxm14.2.1 77 = .ok (.aload_n 0, 1) := by decide +kernel
theorem zd14_78 : decode zxm14.2.1 78 = .ok (.getfield 10, 3) := by decide +kernel
theorem zd14_81 : decode zxm14.2.1 81 = .ok (.getfield 147, 3) := by decide +kernel
theorem zd14_84 : decode zxm14.2.1 84 = .ok (.iload_n 1, 1) := by decide +kernel
theorem zd14_85 : decode zxm14.2.1 85 = .ok (.iconst 0, 1) := by decide +kernel
theorem zd14_86 : decode zxm14.2.1 86 = .ok (.iastore, 1) := by decide +kernel
theorem zd14_87 : decode zxm14.2.1 87 = .ok (.aload_n 0, 1) := by decide +kernel
theorem zd14_88 : decode zxm14.2.1 88 = .ok (.getfield 10, 3) := by decide +kernel
theorem zd14_91 : decode zxm14.2.1 91 = .ok (.getfield 150, 3) := by decide +kernel
theorem zd14_94 : decode zxm14.2.1 94 = .ok (.iload_n 1, 1) := by decide +kernel
theorem zd14_95 : decode zxm14.2.1 95 = .ok (.iconst 0, 1) := by decide +kernel
theorem zd14_96 : decode zxm14.2.1 96 = .ok (.iastore, 1) := by decide +kernel
theorem zd14_97 : decode zxm14.2.1 97 = .ok (.iconst 1, 1) := by decide +kernel
theorem zd14_98 : decode zxm14.2.1 98 = .ok (.ireturn, 1) := by decide +kernel
theorem zt_X_star {x1 : Int} {x2 : Int} {x3 : Int} {x4 : Int} {f0 : Int} {g0 : (Int → Int)} {g1 : (Int → Int)} {g2 : (Int → Int)} {g3 : (Int → Int)} {g4 : (Int → Int)} {o : Int × Int × (Int → Int) × (Int → Int) × (Int → Int) × (Int → Int) × (Int → Int)} (h : zf_X_star x1 x2 x3 x4 f0 g0 g1 g2 g3 g4 = some o) : zv_Fn z_TB z_cl z_KX zy_X_star zxm14 (1, 60) [.inr 0, .inl x1, .inl x2, .inl x3, .inl x4] [.inl f0] [g0, g1, g2, g3, g4] (some o.1) [.inl o.2.1] [o.2.2.1, o.2.2.2.1, o.2.2.2.2.1, o.2.2.2.2.2.1, o.2.2.2.2.2.2] := zv_meth (K := (z_KF0, z_KC0, z_KL0, z_KT0, [], [], [], none)) (FT := z_FT) (MT := z_MT) (n := 5) zxp14 (z_ks0 _ (fun _ h => List.mem_cons_of_mem _ h) _ _ _ _ (fun j r h _ => by cases h)) (fun _ _ => zs_KX_p) zyw_X_star (fun va F G h => by obtain ⟨rfl, _⟩ := h; rfl) (fun va F G h => by obtain ⟨rfl, _⟩ := h; rfl) rfl fun good va F G hB hret hvret hP => by
  obtain ⟨rfl, rfl, rfl⟩ := hP
  unfold zf_X_star at h
  refine zv_ild hB zd14_0 rfl rfl ?_
  refine zv_con hB zd14_1 rfl ?_
  refine zv_con hB zd14_2 rfl ?_
  obtain ⟨r1, hr1, h⟩ := zi_bind h
  refine zv_cs hB (zv_emq (va2 := [.inl x1, .inl 0, .inl 23]) (F := [.inl f0]) (F' := [.inl f0]) (G := [g0, g1, g2, g3, g4]) (G' := [g0, g1, g2, g3, g4]) (ρ := []) (φ := []) (ψ := []) [none] [none, none, none, none, none] zyw_X_isWithin zyw_X_star zye_X_star (by decide +kernel) (zt_X_isWithin hr1) trivial trivial rfl rfl rfl rfl rfl rfl rfl) zd14_4 zxt15 rfl (by decide) (by decide) rfl ?_
  refine zv_zeq hB zd14_7 rfl (fun hc2 => ?_) (fun hc2 => ?_)
  · rw [if_pos hc2] at h
    refine zv_con hB zd14_29 rfl ?_
    have hw := Option.some.inj h
    subst hw
    exact hret _ _ _ _ _ zd14_30 (by constructor <;> decide) ⟨rfl, rfl, rfl⟩
  · rw [if_neg hc2] at h
    refine zv_ild hB zd14_10 rfl rfl ?_
    refine zv_ild hB zd14_11 rfl rfl ?_
    obtain ⟨r3, hr3, h⟩ := zi_bind h
    refine zv_cs hB (zv_emq (va2 := [.inl x2, .inl x3]) (F := [.inl f0]) (F' := [.inl f0]) (G := [g0, g1, g2, g3, g4]) (G' := [g0, g1, g2, g3, g4]) (ρ := []) (φ := []) (ψ := []) [none] [none, none, none, none, none] zyw_X_isPlace zyw_X_star zye_X_star (by decide +kernel) (zt_X_isPlace hr3) trivial trivial rfl rfl rfl rfl rfl rfl rfl) zd14_12 zxt16 rfl (by decide) (by decide) rfl ?_
    refine zv_zeq hB zd14_15 rfl (fun hc4 => ?_) (fun hc4 => ?_)
    · rw [if_pos hc4] at h
      refine zv_con hB zd14_29 rfl ?_
      have hw := Option.some.inj h
      subst hw
      exact hret _ _ _ _ _ zd14_30 (by constructor <;> decide) ⟨rfl, rfl, rfl⟩
    · rw [if_neg hc4] at h
      refine zv_ild hB zd14_18 rfl rfl ?_
      refine zv_con hB zd14_20 rfl ?_
      refine zv_con hB zd14_21 rfl ?_
      obtain ⟨r5, hr5, h⟩ := zi_bind h
      refine zv_cs hB (zv_emq (va2 := [.inl x4, .inl 1, .inl 9]) (F := [.inl f0]) (F' := [.inl f0]) (G := [g0, g1, g2, g3, g4]) (G' := [g0, g1, g2, g3, g4]) (ρ := []) (φ := []) (ψ := []) [none] [none, none, none, none, none] zyw_X_isWithin zyw_X_star zye_X_star (by decide +kernel) (zt_X_isWithin hr5) trivial trivial rfl rfl rfl rfl rfl rfl rfl) zd14_23 zxt15 rfl (by decide) (by decide) rfl ?_
      refine zv_zne hB zd14_26 rfl (fun hc6 => ?_) (fun hc6 => ?_)
      · rw [if_neg hc6] at h
        refine zv_ald hB zd14_31 rfl rfl rfl ?_
        refine zv_getr hB zd14_32 rfl ?_
        refine zv_dup hB zd14_35 rfl ?_
        refine zv_getf hB zd14_36 rfl rfl (fun _ _ => ?_)
        refine zv_con hB zd14_39 rfl ?_
        refine zv_ild hB zd14_40 rfl rfl ?_
        refine zv_shlw hB zd14_41 ?_
        refine zv_orw hB zd14_42 ?_
        refine zv_putf hB zd14_43 rfl rfl (fun h => by cases h) rfl ?_
        refine zv_ald hB zd14_46 rfl rfl rfl ?_
        refine zv_getr hB zd14_47 rfl ?_
        refine zv_getr hB zd14_50 rfl ?_
        refine zv_ild hB zd14_53 rfl rfl ?_
        refine zv_ild hB zd14_54 rfl rfl ?_
        obtain ⟨c7, h⟩ := zi_if h
        refine zv_iast hB zd14_55 rfl rfl (zi_ix_ok c7).1 (zi_ix_ok c7).2 ?_
        refine zv_ald hB zd14_56 rfl rfl rfl ?_
        refine zv_getr hB zd14_57 rfl ?_
        refine zv_getr hB zd14_60 rfl ?_
        refine zv_ild hB zd14_63 rfl rfl ?_
        refine zv_ild hB zd14_64 rfl rfl ?_
        refine zv_iast hB zd14_65 rfl rfl (zi_ix_ok c7).1 (zi_ix_ok c7).2 ?_
        refine zv_ald hB zd14_66 rfl rfl rfl ?_
        refine zv_getr hB zd14_67 rfl ?_
        refine zv_getr hB zd14_70 rfl ?_
        refine zv_ild hB zd14_73 rfl rfl ?_
        refine zv_ild hB zd14_74 rfl rfl ?_
        refine zv_iast hB zd14_76 rfl rfl (zi_ix_ok c7).1 (zi_ix_ok c7).2 ?_
        refine zv_ald hB zd14_77 rfl rfl rfl ?_
        refine zv_getr hB zd14_78 rfl ?_
        refine zv_getr hB zd14_81 rfl ?_
        refine zv_ild hB zd14_84 rfl rfl ?_
        refine zv_con hB zd14_85 rfl ?_
        refine zv_iast hB zd14_86 rfl rfl (zi_ix_ok c7).1 (zi_ix_ok c7).2 ?_
        refine zv_ald hB zd14_87 rfl rfl rfl ?_
        refine zv_getr hB zd14_88 rfl ?_
        refine zv_getr hB zd14_91 rfl ?_
        refine zv_ild hB zd14_94 rfl rfl ?_
        refine zv_con hB zd14_95 rfl ?_
        refine zv_iast hB zd14_96 rfl rfl (zi_ix_ok c7).1 (zi_ix_ok c7).2 ?_
        refine zv_con hB zd14_97 rfl ?_
        have hw := Option.some.inj h
        subst hw
        exact hret _ _ _ _ _ zd14_98 (by constructor <;> decide) ⟨rfl, rfl, rfl⟩
      · rw [if_pos hc6] at h
        refine zv_con hB zd14_29 rfl ?_
        have hw := Option.some.inj h
        subst hw
        exact hret _ _ _ _ _ zd14_30 (by constructor <;> decide) ⟨rfl, rfl, rfl⟩
/-! Sky_hasStar (I)Z -/
-- names: 0 Sky('arg', 0)
-- fields: f0 = 0.told_; arrays: ; out: [('ret', None)]
abbrev zy_Sky_hasStar : zNL := (1, [(0, 1)], [(0, 1, 0, 0)], [], [])
theorem zyw_Sky_hasStar : zv_wf zy_Sky_hasStar = true := by decide +kernel
theorem zye_Sky_hasStar : zv_ek2 zy_Sky_hasStar = true := by decide +kernel
def zf_Sky_hasStar (x1 : Int) (f0 : Int) : Option (Int) := if x1 < 0 then (some 0) else (if x1 < 24 then (if (zi_and (zi_shr f0 x1) 1) = 0 then (some 0) else (some 1)) else (some 0))
theorem zd18_0 : decode zxm18.2.1 0 = .ok (.iload_n 1, 1) := by decide +kernel
theorem zd18_1 : decode zxm18.2.1 1 = .ok (.ifCond .lt 24, 3) := by decide +kernel
theorem zd18_4 : decode zxm18.2.1 4 = .ok (.iload_n 1, 1) := by decide +kernel
theorem zd18_5 : decode zxm18.2.1 5 = .ok (.bipush 24, 2) := by decide +kernel
theorem zd18_7 : decode zxm18.2.1 7 = .ok (.if_icmp .ge 18, 3) := by decide +kernel
theorem zd18_10 : decode zxm18.2.1 10 = .ok (.aload_n 0, 1) := by decide +kernel
theorem zd18_11 : decode zxm18.2.1 11 = .ok (.getfield 9, 3) := by decide +kernel
theorem zd18_14 : decode zxm18.2.1 14 = .ok (.iload_n 1, 1) := by decide +kernel
theorem zd18_15 : decode zxm18.2.1 15 = .ok (.ishr, 1) := by decide +kernel
theorem zd18_16 : decode zxm18.2.1 16 = .ok (.iconst 1, 1) := by decide +kernel
theorem zd18_17 : decode zxm18.2.1 17 = .ok (.iand, 1) := by decide +kernel
theorem zd18_18 : decode zxm18.2.1 18 = .ok (.ifCond .eq 7, 3) := by decide +kernel
theorem zd18_21 : decode zxm18.2.1 21 = .ok (.iconst 1, 1) := by decide +kernel
theorem zd18_22 : decode zxm18.2.1 22 = .ok (.goto 4, 3) := by decide +kernel
theorem zd18_25 : decode zxm18.2.1 25 = .ok (.iconst 0, 1) := by decide +kernel
theorem zd18_26 : decode zxm18.2.1 26 = .ok (.ireturn, 1) := by decide +kernel
theorem zt_Sky_hasStar {x1 : Int} {f0 : Int} {o : Int} (h : zf_Sky_hasStar x1 f0 = some o) : zv_Fn z_TB z_cl z_KX zy_Sky_hasStar zxm18 (0, 0) [.inr 0, .inl x1] [.inl f0] [] (some o) [.inl f0] [] := zv_meth (K := (z_KF8, z_KC8, z_KL8, z_KT8, [], [], [], none)) (FT := z_FT) (MT := z_MT) (n := 2) zxp18 (z_ks8 _ (fun _ h => List.mem_cons_of_mem _ h) _ _ _ _ (fun j r h _ => by cases h)) (fun _ _ => zs_KX_p) zyw_Sky_hasStar (fun va F G h => by obtain ⟨rfl, _⟩ := h; rfl) (fun va F G h => by obtain ⟨rfl, _⟩ := h; rfl) rfl fun good va F G hB hret hvret hP => by
  obtain ⟨rfl, rfl, rfl⟩ := hP
  unfold zf_Sky_hasStar at h
  refine zv_ild hB zd18_0 rfl rfl ?_
  refine zv_zlt hB zd18_1 rfl (fun hc1 => ?_) (fun hc1 => ?_)
  · rw [if_pos hc1] at h
    refine zv_con hB zd18_25 rfl ?_
    have hw := Option.some.inj h
    subst hw
    exact hret _ _ _ _ _ zd18_26 (by constructor <;> decide) ⟨rfl, rfl, rfl⟩
  · rw [if_neg (Int.not_lt.mpr hc1)] at h
    refine zv_ild hB zd18_4 rfl rfl ?_
    refine zv_con hB zd18_5 rfl ?_
    refine zv_cge hB zd18_7 rfl (fun hc2 => ?_) (fun hc2 => ?_)
    · rw [if_neg (Int.not_lt.mpr hc2)] at h
      refine zv_con hB zd18_25 rfl ?_
      have hw := Option.some.inj h
      subst hw
      exact hret _ _ _ _ _ zd18_26 (by constructor <;> decide) ⟨rfl, rfl, rfl⟩
    · rw [if_pos hc2] at h
      refine zv_ald hB zd18_10 rfl rfl rfl ?_
      refine zv_getf hB zd18_11 rfl rfl (fun _ _ => ?_)
      refine zv_ild hB zd18_14 rfl rfl ?_
      refine zv_shrw hB zd18_15 ?_
      refine zv_con hB zd18_16 rfl ?_
      refine zv_andw hB zd18_17 ?_
      refine zv_zeq hB zd18_18 rfl (fun hc3 => ?_) (fun hc3 => ?_)
      · rw [if_pos hc3] at h
        refine zv_con hB zd18_25 rfl ?_
        have hw := Option.some.inj h
        subst hw
        exact hret _ _ _ _ _ zd18_26 (by constructor <;> decide) ⟨rfl, rfl, rfl⟩
      · rw [if_neg hc3] at h
        refine zv_con hB zd18_21 rfl ?_
        refine zv_goto hB zd18_22 rfl ?_
        have hw := Option.some.inj h
        subst hw
        exact hret _ _ _ _ _ zd18_26 (by constructor <;> decide) ⟨rfl, rfl, rfl⟩
/-! X_walk (III)Z -/
-- names: 0 StarTales('arg', 0), 1 Sky(0, 0, 0), 2 (0, 24)(1, 1, 4), 3 (0, 24)(1, 1, 5)
-- fields: f0 = 1.told_; arrays: g0 = 2, g1 = 3; out: [('ret', None), ('g', 0), ('g', 1)]
abbrev zy_X_walk : zNL := (4, [(0, 0), (1, 1)], [(1, 1, 0, 0)], [(0, 0, 0, 1), (1, 1, 4, 2), (1, 1, 5, 3)], [(2, 0, 24, 0), (3, 0, 24, 1)])
theorem zyw_X_walk : zv_wf zy_X_walk = true := by decide +kernel
theorem zye_X_walk : zv_ek2 zy_X_walk = true := by decide +kernel
def zf_X_walk (x1 : Int) (x2 : Int) (x3 : Int) (f0 : Int) (g0 : (Int → Int)) (g1 : (Int → Int)) : Option (Int × (Int → Int) × (Int → Int)) := (zf_Sky_hasStar x1 f0).bind fun r1 => (if r1 = 0 then (some (0, g0, g1)) else ((zf_X_isWithin x2 (-3) 3).bind fun r3 => (if r3 = 0 then (some (0, g0, g1)) else ((zf_X_isWithin x3 (-3) 3).bind fun r5 => (if r5 = 0 then (some (0, g0, g1)) else (cond (zi_ix x1 24) (some (1, (zv_up g0 x1 x2), (zv_up g1 x1 x3))) none))))))
theorem zd17_0 : decode zxm17.2.1 0 = .ok (.aload_n 0, 1) := by decide +kernel
theorem zd17_1 : decode zxm17.2.1 1 = .ok (.getfield 10, 3) := by decide +kernel
theorem zd17_4 : decode zxm17.2.1 4 = .ok (.iload_n 1, 1) := by decide +kernel
theorem zd17_5 : decode zxm17.2.1 5 = .ok (.invokevirtual 153, 3) := by decide +kernel
theorem zd17_8 : decode zxm17.2.1 8 = .ok (.ifCond .eq 23, 3) := by decide +kernel
theorem zd17_11 : decode zxm17.2.1 11 = .ok (.iload_n 2, 1) := by decide +kernel
theorem zd17_12 : decode zxm17.2.1 12 = .ok (.bipush (-3), 2) := by decide +kernel
theorem zd17_14 : decode zxm17.2.1 14 = .ok (.iconst 3, 1) := by decide +kernel
theorem zd17_15 : decode zxm17.2.1 15 = .ok (.invokestatic 126, 3) := by decide +kernel
theorem zd17_18 : decode zxm17.2.1 18 = .ok (.ifCond .eq 13, 3) := by decide +kernel
theorem zd17_21 : decode zxm17.2.1 21 = .ok (.iload_n 3, 1) := by decide +kernel
theorem zd17_22 : decode zxm17.2.1 22 = .ok (.bipush (-3), 2) := by decide +kernel
theorem zd17_24 : decode zxm17.2.1 24 = .ok (.iconst 3, 1) := by decide +kernel
theorem zd17_25 : decode zxm17.2.1 25 = .ok (.invokestatic 126, 3) := by decide +kernel
theorem zd17_28 : decode zxm17.2.1 28 = .ok (.ifCond .ne 5, 3) := by decide +kernel
theorem zd17_31 : decode zxm17.2.1 31 = .ok (.iconst 0, 1) := by decide +kernel
theorem zd17_32 : decode zxm17.2.1 32 = .ok (.ireturn, 1) := by decide +kernel
theorem zd17_33 : decode zxm17.2.1 33 = .ok (.aload_n 0, 1) := by decide +kernel
theorem zd17_34 : decode zxm17.2.1 34 = .ok (.getfield 10, 3) := by decide +kernel
theorem zd17_37 : decode zxm17.2.1 37 = .ok (.getfield 147, 3) := by decide +kernel
theorem zd17_40 : decode zxm17.2.1 40 = .ok (.iload_n 1, 1) := by decide +kernel
theorem zd17_41 : decode zxm17.2.1 41 = .ok (.iload_n 2, 1) := by decide +kernel
theorem zd17_42 : decode zxm17.2.1 42 = .ok (.iastore, 1) := by decide +kernel
theorem zd17_43 : decode zxm17.2.1 43 = .ok (.aload_n 0, 1) := by decide +kernel
theorem zd17_44 : decode zxm17.2.1 44 = .ok (.getfield 10, 3) := by decide +kernel
theorem zd17_47 : decode zxm17.2.1 47 = .ok (.getfield 150, 3) := by decide +kernel
theorem zd17_50 : decode zxm17.2.1 50 = .ok (.iload_n 1, 1) := by decide +kernel
theorem zd17_51 : decode zxm17.2.1 51 = .ok (.iload_n 3, 1) := by decide +kernel
theorem zd17_52 : decode zxm17.2.1 52 = .ok (.iastore, 1) := by decide +kernel
theorem zd17_53 : decode zxm17.2.1 53 = .ok (.iconst 1, 1) := by decide +kernel
theorem zd17_54 : decode zxm17.2.1 54 = .ok (.ireturn, 1) := by decide +kernel
theorem zt_X_walk {x1 : Int} {x2 : Int} {x3 : Int} {f0 : Int} {g0 : (Int → Int)} {g1 : (Int → Int)} {o : Int × (Int → Int) × (Int → Int)} (h : zf_X_walk x1 x2 x3 f0 g0 g1 = some o) : zv_Fn z_TB z_cl z_KX zy_X_walk zxm17 (1, 60) [.inr 0, .inl x1, .inl x2, .inl x3] [.inl f0] [g0, g1] (some o.1) [.inl f0] [o.2.1, o.2.2] := zv_meth (K := (z_KF0, z_KC0, z_KL0, z_KT0, [], [], [], none)) (FT := z_FT) (MT := z_MT) (n := 4) zxp17 (z_ks0 _ (fun _ h => List.mem_cons_of_mem _ h) _ _ _ _ (fun j r h _ => by cases h)) (fun _ _ => zs_KX_p) zyw_X_walk (fun va F G h => by obtain ⟨rfl, _⟩ := h; rfl) (fun va F G h => by obtain ⟨rfl, _⟩ := h; rfl) rfl fun good va F G hB hret hvret hP => by
  obtain ⟨rfl, rfl, rfl⟩ := hP
  unfold zf_X_walk at h
  refine zv_ald hB zd17_0 rfl rfl rfl ?_
  refine zv_getr hB zd17_1 rfl ?_
  refine zv_ild hB zd17_4 rfl rfl ?_
  obtain ⟨r1, hr1, h⟩ := zi_bind h
  refine zv_cv hB (zv_emq (va2 := [.inr 1, .inl x1]) (F := [.inl f0]) (F' := [.inl f0]) (G := [g0, g1]) (G' := [g0, g1]) (ρ := [1]) (φ := [0]) (ψ := []) [some 0] [none, none] zyw_Sky_hasStar zyw_X_walk zye_X_walk (by decide +kernel) (zt_Sky_hasStar hr1) ⟨⟨_, rfl, fun _ => rfl⟩, trivial⟩ trivial rfl rfl rfl rfl rfl rfl rfl) zd17_5 zxt18 rfl (by decide) (by decide) rfl ?_
  refine zv_zeq hB zd17_8 rfl (fun hc2 => ?_) (fun hc2 => ?_)
  · rw [if_pos hc2] at h
    refine zv_con hB zd17_31 rfl ?_
    have hw := Option.some.inj h
    subst hw
    exact hret _ _ _ _ _ zd17_32 (by constructor <;> decide) ⟨rfl, rfl, rfl⟩
  · rw [if_neg hc2] at h
    refine zv_ild hB zd17_11 rfl rfl ?_
    refine zv_con hB zd17_12 rfl ?_
    refine zv_con hB zd17_14 rfl ?_
    obtain ⟨r3, hr3, h⟩ := zi_bind h
    refine zv_cs hB (zv_emq (va2 := [.inl x2, .inl (-3), .inl 3]) (F := [.inl f0]) (F' := [.inl f0]) (G := [g0, g1]) (G' := [g0, g1]) (ρ := []) (φ := []) (ψ := []) [none] [none, none] zyw_X_isWithin zyw_X_walk zye_X_walk (by decide +kernel) (zt_X_isWithin hr3) trivial trivial rfl rfl rfl rfl rfl rfl rfl) zd17_15 zxt15 rfl (by decide) (by decide) rfl ?_
    refine zv_zeq hB zd17_18 rfl (fun hc4 => ?_) (fun hc4 => ?_)
    · rw [if_pos hc4] at h
      refine zv_con hB zd17_31 rfl ?_
      have hw := Option.some.inj h
      subst hw
      exact hret _ _ _ _ _ zd17_32 (by constructor <;> decide) ⟨rfl, rfl, rfl⟩
    · rw [if_neg hc4] at h
      refine zv_ild hB zd17_21 rfl rfl ?_
      refine zv_con hB zd17_22 rfl ?_
      refine zv_con hB zd17_24 rfl ?_
      obtain ⟨r5, hr5, h⟩ := zi_bind h
      refine zv_cs hB (zv_emq (va2 := [.inl x3, .inl (-3), .inl 3]) (F := [.inl f0]) (F' := [.inl f0]) (G := [g0, g1]) (G' := [g0, g1]) (ρ := []) (φ := []) (ψ := []) [none] [none, none] zyw_X_isWithin zyw_X_walk zye_X_walk (by decide +kernel) (zt_X_isWithin hr5) trivial trivial rfl rfl rfl rfl rfl rfl rfl) zd17_25 zxt15 rfl (by decide) (by decide) rfl ?_
      refine zv_zne hB zd17_28 rfl (fun hc6 => ?_) (fun hc6 => ?_)
      · rw [if_neg hc6] at h
        refine zv_ald hB zd17_33 rfl rfl rfl ?_
        refine zv_getr hB zd17_34 rfl ?_
        refine zv_getr hB zd17_37 rfl ?_
        refine zv_ild hB zd17_40 rfl rfl ?_
        refine zv_ild hB zd17_41 rfl rfl ?_
        obtain ⟨c7, h⟩ := zi_if h
        refine zv_iast hB zd17_42 rfl rfl (zi_ix_ok c7).1 (zi_ix_ok c7).2 ?_
        refine zv_ald hB zd17_43 rfl rfl rfl ?_
        refine zv_getr hB zd17_44 rfl ?_
        refine zv_getr hB zd17_47 rfl ?_
        refine zv_ild hB zd17_50 rfl rfl ?_
        refine zv_ild hB zd17_51 rfl rfl ?_
        refine zv_iast hB zd17_52 rfl rfl (zi_ix_ok c7).1 (zi_ix_ok c7).2 ?_
        refine zv_con hB zd17_53 rfl ?_
        have hw := Option.some.inj h
        subst hw
        exact hret _ _ _ _ _ zd17_54 (by constructor <;> decide) ⟨rfl, rfl, rfl⟩
      · rw [if_pos hc6] at h
        refine zv_con hB zd17_31 rfl ?_
        have hw := Option.some.inj h
        subst hw
        exact hret _ _ _ _ _ zd17_32 (by constructor <;> decide) ⟨rfl, rfl, rfl⟩
/-! X_gone (I)Z -/
-- names: 0 StarTales('arg', 0), 1 Sky(0, 0, 0)
-- fields: f0 = 1.told_; arrays: ; out: [('ret', None), ('f', 0)]
abbrev zy_X_gone : zNL := (2, [(0, 0), (1, 1)], [(1, 1, 0, 0)], [(0, 0, 0, 1)], [])
theorem zyw_X_gone : zv_wf zy_X_gone = true := by decide +kernel
theorem zye_X_gone : zv_ek2 zy_X_gone = true := by decide +kernel
def zf_X_gone (x1 : Int) (f0 : Int) : Option (Int × Int) := (zf_Sky_hasStar x1 f0).bind fun r1 => (if r1 = 0 then (some (0, f0)) else (some (1, (zi_and f0 (zi_xor (zi_shl 1 x1) (-1))))))
theorem zd19_0 : decode zxm19.2.1 0 = .ok (.aload_n 0, 1) := by decide +kernel
theorem zd19_1 : decode zxm19.2.1 1 = .ok (.getfield 10, 3) := by decide +kernel
theorem zd19_4 : decode zxm19.2.1 4 = .ok (.iload_n 1, 1) := by decide +kernel
theorem zd19_5 : decode zxm19.2.1 5 = .ok (.invokevirtual 153, 3) := by decide +kernel
theorem zd19_8 : decode zxm19.2.1 8 = .ok (.ifCond .ne 5, 3) := by decide +kernel
theorem zd19_11 : decode zxm19.2.1 11 = .ok (.iconst 0, 1) := by decide +kernel
theorem zd19_12 : decode zxm19.2.1 12 = .ok (.ireturn, 1) := by decide +kernel
theorem zd19_13 : decode zxm19.2.1 13 = .ok (.aload_n 0, 1) := by decide +kernel
theorem zd19_14 : decode zxm19.2.1 14 = .ok (.getfield 10, 3) := by decide +kernel
theorem zd19_17 : decode zxm19.2.1 17 = .ok (.dup, 1) := by decide +kernel
theorem zd19_18 : decode zxm19.2.1 18 = .ok (.getfield 134, 3) := by decide +kernel
theorem zd19_21 : decode zxm19.2.1 21 = .ok (.iconst 1, 1) := by decide +kernel
theorem zd19_22 : decode zxm19.2.1 22 = .ok (.iload_n 1, 1) := by decide +kernel
theorem zd19_23 : decode zxm19.2.1 23 = .ok (.ishl, 1) := by decide +kernel
theorem zd19_24 : decode zxm19.2.1 24 = .ok (.iconst (-1), 1) := by decide +kernel
theorem zd19_25 : decode zxm19.2.1 25 = .ok (.ixor, 1) := by decide +kernel
theorem zd19_26 : decode zxm19.2.1 26 = .ok (.iand, 1) := by decide +kernel
theorem zd19_27 : decode zxm19.2.1 27 = .ok (.putfield 134, 3) := by decide +kernel
theorem zd19_30 : decode zxm19.2.1 30 = .ok (.iconst 1, 1) := by decide +kernel
theorem zd19_31 : decode zxm19.2.1 31 = .ok (.ireturn, 1) := by decide +kernel
theorem zt_X_gone {x1 : Int} {f0 : Int} {o : Int × Int} (h : zf_X_gone x1 f0 = some o) : zv_Fn z_TB z_cl z_KX zy_X_gone zxm19 (1, 60) [.inr 0, .inl x1] [.inl f0] [] (some o.1) [.inl o.2] [] := zv_meth (K := (z_KF0, z_KC0, z_KL0, z_KT0, [], [], [], none)) (FT := z_FT) (MT := z_MT) (n := 2) zxp19 (z_ks0 _ (fun _ h => List.mem_cons_of_mem _ h) _ _ _ _ (fun j r h _ => by cases h)) (fun _ _ => zs_KX_p) zyw_X_gone (fun va F G h => by obtain ⟨rfl, _⟩ := h; rfl) (fun va F G h => by obtain ⟨rfl, _⟩ := h; rfl) rfl fun good va F G hB hret hvret hP => by
  obtain ⟨rfl, rfl, rfl⟩ := hP
  unfold zf_X_gone at h
  refine zv_ald hB zd19_0 rfl rfl rfl ?_
  refine zv_getr hB zd19_1 rfl ?_
  refine zv_ild hB zd19_4 rfl rfl ?_
  obtain ⟨r1, hr1, h⟩ := zi_bind h
  refine zv_cv hB (zv_emq (va2 := [.inr 1, .inl x1]) (F := [.inl f0]) (F' := [.inl f0]) (G := []) (G' := []) (ρ := [1]) (φ := [0]) (ψ := []) [some 0] [] zyw_Sky_hasStar zyw_X_gone zye_X_gone (by decide +kernel) (zt_Sky_hasStar hr1) ⟨⟨_, rfl, fun _ => rfl⟩, trivial⟩ trivial rfl rfl rfl rfl rfl rfl rfl) zd19_5 zxt18 rfl (by decide) (by decide) rfl ?_
  refine zv_zne hB zd19_8 rfl (fun hc2 => ?_) (fun hc2 => ?_)
  · rw [if_neg hc2] at h
    refine zv_ald hB zd19_13 rfl rfl rfl ?_
    refine zv_getr hB zd19_14 rfl ?_
    refine zv_dup hB zd19_17 rfl ?_
    refine zv_getf hB zd19_18 rfl rfl (fun _ _ => ?_)
    refine zv_con hB zd19_21 rfl ?_
    refine zv_ild hB zd19_22 rfl rfl ?_
    refine zv_shlw hB zd19_23 ?_
    refine zv_con hB zd19_24 rfl ?_
    refine zv_xorw hB zd19_25 ?_
    refine zv_andw hB zd19_26 ?_
    refine zv_putf hB zd19_27 rfl rfl (fun h => by cases h) rfl ?_
    refine zv_con hB zd19_30 rfl ?_
    have hw := Option.some.inj h
    subst hw
    exact hret _ _ _ _ _ zd19_31 (by constructor <;> decide) ⟨rfl, rfl, rfl⟩
  · rw [if_pos hc2] at h
    refine zv_con hB zd19_11 rfl ?_
    have hw := Option.some.inj h
    subst hw
    exact hret _ _ _ _ _ zd19_12 (by constructor <;> decide) ⟨rfl, rfl, rfl⟩
/-! X_hour (I)Z -/
-- names: 0 StarTales('arg', 0), 1 Sky(0, 0, 0)
-- fields: f0 = 1.hour_; arrays: ; out: [('ret', None), ('f', 0)]
abbrev zy_X_hour : zNL := (2, [(0, 0), (1, 1)], [(1, 1, 6, 0)], [(0, 0, 0, 1)], [])
theorem zyw_X_hour : zv_wf zy_X_hour = true := by decide +kernel
theorem zye_X_hour : zv_ek2 zy_X_hour = true := by decide +kernel
def zf_X_hour (x1 : Int) (f0 : Int) : Option (Int × Int) := (zf_X_isWithin x1 0 23).bind fun r1 => (if r1 = 0 then (some (0, f0)) else (some (1, x1)))
theorem zd20_0 : decode zxm20.2.1 0 = .ok (.iload_n 1, 1) := by decide +kernel
theorem zd20_1 : decode zxm20.2.1 1 = .ok (.iconst 0, 1) := by decide +kernel
theorem zd20_2 : decode zxm20.2.1 2 = .ok (.bipush 23, 2) := by decide +kernel
theorem zd20_4 : decode zxm20.2.1 4 = .ok (.invokestatic 126, 3) := by decide +kernel
theorem zd20_7 : decode zxm20.2.1 7 = .ok (.ifCond .ne 5, 3) := by decide +kernel
theorem zd20_10 : decode zxm20.2.1 10 = .ok (.iconst 0, 1) := by decide +kernel
theorem zd20_11 : decode zxm20.2.1 11 = .ok (.ireturn, 1) := by decide +kernel
theorem zd20_12 : decode zxm20.2.1 12 = .ok (.aload_n 0, 1) := by decide +kernel
theorem zd20_13 : decode zxm20.2.1 13 = .ok (.getfield 10, 3) := by decide +kernel
theorem zd20_16 : decode zxm20.2.1 16 = .ok (.iload_n 1, 1) := by decide +kernel
theorem zd20_17 : decode zxm20.2.1 17 = .ok (.putfield 157, 3) := by decide +kernel
theorem zd20_20 : decode zxm20.2.1 20 = .ok (.iconst 1, 1) := by decide +kernel
theorem zd20_21 : decode zxm20.2.1 21 = .ok (.ireturn, 1) := by decide +kernel
theorem zt_X_hour {x1 : Int} {f0 : Int} {o : Int × Int} (h : zf_X_hour x1 f0 = some o) : zv_Fn z_TB z_cl z_KX zy_X_hour zxm20 (1, 60) [.inr 0, .inl x1] [.inl f0] [] (some o.1) [.inl o.2] [] := zv_meth (K := (z_KF0, z_KC0, z_KL0, z_KT0, [], [], [], none)) (FT := z_FT) (MT := z_MT) (n := 2) zxp20 (z_ks0 _ (fun _ h => List.mem_cons_of_mem _ h) _ _ _ _ (fun j r h _ => by cases h)) (fun _ _ => zs_KX_p) zyw_X_hour (fun va F G h => by obtain ⟨rfl, _⟩ := h; rfl) (fun va F G h => by obtain ⟨rfl, _⟩ := h; rfl) rfl fun good va F G hB hret hvret hP => by
  obtain ⟨rfl, rfl, rfl⟩ := hP
  unfold zf_X_hour at h
  refine zv_ild hB zd20_0 rfl rfl ?_
  refine zv_con hB zd20_1 rfl ?_
  refine zv_con hB zd20_2 rfl ?_
  obtain ⟨r1, hr1, h⟩ := zi_bind h
  refine zv_cs hB (zv_emq (va2 := [.inl x1, .inl 0, .inl 23]) (F := [.inl f0]) (F' := [.inl f0]) (G := []) (G' := []) (ρ := []) (φ := []) (ψ := []) [none] [] zyw_X_isWithin zyw_X_hour zye_X_hour (by decide +kernel) (zt_X_isWithin hr1) trivial trivial rfl rfl rfl rfl rfl rfl rfl) zd20_4 zxt15 rfl (by decide) (by decide) rfl ?_
  refine zv_zne hB zd20_7 rfl (fun hc2 => ?_) (fun hc2 => ?_)
  · rw [if_neg hc2] at h
    refine zv_ald hB zd20_12 rfl rfl rfl ?_
    refine zv_getr hB zd20_13 rfl ?_
    refine zv_ild hB zd20_16 rfl rfl ?_
    refine zv_putf hB zd20_17 rfl rfl (fun h => by cases h) rfl ?_
    refine zv_con hB zd20_20 rfl ?_
    have hw := Option.some.inj h
    subst hw
    exact hret _ _ _ _ _ zd20_21 (by constructor <;> decide) ⟨rfl, rfl, rfl⟩
  · rw [if_pos hc2] at h
    refine zv_con hB zd20_10 rfl ?_
    have hw := Option.some.inj h
    subst hw
    exact hret _ _ _ _ _ zd20_11 (by constructor <;> decide) ⟨rfl, rfl, rfl⟩
/-! X_clouds (I)Z -/
-- names: 0 StarTales('arg', 0), 1 Sky(0, 0, 0)
-- fields: f0 = 1.clouds_; arrays: ; out: [('ret', None), ('f', 0)]
abbrev zy_X_clouds : zNL := (2, [(0, 0), (1, 1)], [(1, 1, 8, 0)], [(0, 0, 0, 1)], [])
theorem zyw_X_clouds : zv_wf zy_X_clouds = true := by decide +kernel
theorem zye_X_clouds : zv_ek2 zy_X_clouds = true := by decide +kernel
def zf_X_clouds (x1 : Int) (f0 : Int) : Option (Int × Int) := (zf_X_isWithin x1 0 16777215).bind fun r1 => (if r1 = 0 then (some (0, f0)) else (some (1, x1)))
theorem zd21_0 : decode zxm21.2.1 0 = .ok (.iload_n 1, 1) := by decide +kernel
theorem zd21_1 : decode zxm21.2.1 1 = .ok (.iconst 0, 1) := by decide +kernel
theorem zd21_2 : decode zxm21.2.1 2 = .ok (.ldc 160, 2) := by decide +kernel
theorem zd21_4 : decode zxm21.2.1 4 = .ok (.invokestatic 126, 3) := by decide +kernel
theorem zd21_7 : decode zxm21.2.1 7 = .ok (.ifCond .ne 5, 3) := by decide +kernel
theorem zd21_10 : decode zxm21.2.1 10 = .ok (.iconst 0, 1) := by decide +kernel
theorem zd21_11 : decode zxm21.2.1 11 = .ok (.ireturn, 1) := by decide +kernel
theorem zd21_12 : decode zxm21.2.1 12 = .ok (.aload_n 0, 1) := by decide +kernel
theorem zd21_13 : decode zxm21.2.1 13 = .ok (.getfield 10, 3) := by decide +kernel
theorem zd21_16 : decode zxm21.2.1 16 = .ok (.iload_n 1, 1) := by decide +kernel
theorem zd21_17 : decode zxm21.2.1 17 = .ok (.putfield 161, 3) := by decide +kernel
theorem zd21_20 : decode zxm21.2.1 20 = .ok (.iconst 1, 1) := by decide +kernel
theorem zd21_21 : decode zxm21.2.1 21 = .ok (.ireturn, 1) := by decide +kernel
theorem zt_X_clouds {x1 : Int} {f0 : Int} {o : Int × Int} (h : zf_X_clouds x1 f0 = some o) : zv_Fn z_TB z_cl z_KX zy_X_clouds zxm21 (1, 60) [.inr 0, .inl x1] [.inl f0] [] (some o.1) [.inl o.2] [] := zv_meth (K := (z_KF0, z_KC0, z_KL0, z_KT0, [], [], [], none)) (FT := z_FT) (MT := z_MT) (n := 2) zxp21 (z_ks0 _ (fun _ h => List.mem_cons_of_mem _ h) _ _ _ _ (fun j r h _ => by cases h)) (fun _ _ => zs_KX_p) zyw_X_clouds (fun va F G h => by obtain ⟨rfl, _⟩ := h; rfl) (fun va F G h => by obtain ⟨rfl, _⟩ := h; rfl) rfl fun good va F G hB hret hvret hP => by
  obtain ⟨rfl, rfl, rfl⟩ := hP
  unfold zf_X_clouds at h
  refine zv_ild hB zd21_0 rfl rfl ?_
  refine zv_con hB zd21_1 rfl ?_
  refine zv_con (n := 16777215) hB zd21_2 (by decide +kernel) ?_
  obtain ⟨r1, hr1, h⟩ := zi_bind h
  refine zv_cs hB (zv_emq (va2 := [.inl x1, .inl 0, .inl 16777215]) (F := [.inl f0]) (F' := [.inl f0]) (G := []) (G' := []) (ρ := []) (φ := []) (ψ := []) [none] [] zyw_X_isWithin zyw_X_clouds zye_X_clouds (by decide +kernel) (zt_X_isWithin hr1) trivial trivial rfl rfl rfl rfl rfl rfl rfl) zd21_4 zxt15 rfl (by decide) (by decide) rfl ?_
  refine zv_zne hB zd21_7 rfl (fun hc2 => ?_) (fun hc2 => ?_)
  · rw [if_neg hc2] at h
    refine zv_ald hB zd21_12 rfl rfl rfl ?_
    refine zv_getr hB zd21_13 rfl ?_
    refine zv_ild hB zd21_16 rfl rfl ?_
    refine zv_putf hB zd21_17 rfl rfl (fun h => by cases h) rfl ?_
    refine zv_con hB zd21_20 rfl ?_
    have hw := Option.some.inj h
    subst hw
    exact hret _ _ _ _ _ zd21_21 (by constructor <;> decide) ⟨rfl, rfl, rfl⟩
  · rw [if_pos hc2] at h
    refine zv_con hB zd21_10 rfl ?_
    have hw := Option.some.inj h
    subst hw
    exact hret _ _ _ _ _ zd21_11 (by constructor <;> decide) ⟨rfl, rfl, rfl⟩
/-! X_sight (II)Z -/
-- names: 0 StarTales('arg', 0), 1 Sky(0, 0, 0)
-- fields: f0 = 1.sightColumns_, f1 = 1.sightRows_; arrays: ; out: [('ret', None), ('f', 0), ('f', 1)]
abbrev zy_X_sight : zNL := (2, [(0, 0), (1, 1)], [(1, 1, 9, 0), (1, 1, 10, 1)], [(0, 0, 0, 1)], [])
theorem zyw_X_sight : zv_wf zy_X_sight = true := by decide +kernel
theorem zye_X_sight : zv_ek2 zy_X_sight = true := by decide +kernel
def zf_X_sight (x1 : Int) (x2 : Int) (f0 : Int) (f1 : Int) : Option (Int × Int × Int) := (zf_X_isWithin x1 0 11).bind fun r1 => (if r1 = 0 then (some (0, f0, f1)) else ((zf_X_isWithin x2 0 11).bind fun r3 => (if r3 = 0 then (some (0, f0, f1)) else (some (1, x1, x2)))))
theorem zd22_0 : decode zxm22.2.1 0 = .ok (.iload_n 1, 1) := by decide +kernel
theorem zd22_1 : decode zxm22.2.1 1 = .ok (.iconst 0, 1) := by decide +kernel
theorem zd22_2 : decode zxm22.2.1 2 = .ok (.bipush 11, 2) := by decide +kernel
theorem zd22_4 : decode zxm22.2.1 4 = .ok (.invokestatic 126, 3) := by decide +kernel
theorem zd22_7 : decode zxm22.2.1 7 = .ok (.ifCond .eq 13, 3) := by decide +kernel
theorem zd22_10 : decode zxm22.2.1 10 = .ok (.iload_n 2, 1) := by decide +kernel
theorem zd22_11 : decode zxm22.2.1 11 = .ok (.iconst 0, 1) := by decide +kernel
theorem zd22_12 : decode zxm22.2.1 12 = .ok (.bipush 11, 2) := by decide +kernel
theorem zd22_14 : decode zxm22.2.1 14 = .ok (.invokestatic 126, 3) := by decide +kernel
theorem zd22_17 : decode zxm22.2.1 17 = .ok (.ifCond .ne 5, 3) := by decide +kernel
theorem zd22_20 : decode zxm22.2.1 20 = .ok (.iconst 0, 1) := by decide +kernel
theorem zd22_21 : decode zxm22.2.1 21 = .ok (.ireturn, 1) := by decide +kernel
theorem zd22_22 : decode zxm22.2.1 22 = .ok (.aload_n 0, 1) := by decide +kernel
theorem zd22_23 : decode zxm22.2.1 23 = .ok (.getfield 10, 3) := by decide +kernel
theorem zd22_26 : decode zxm22.2.1 26 = .ok (.iload_n 1, 1) := by decide +kernel
theorem zd22_27 : decode zxm22.2.1 27 = .ok (.putfield 164, 3) := by decide +kernel
theorem zd22_30 : decode zxm22.2.1 30 = .ok (.aload_n 0, 1) := by decide +kernel
theorem zd22_31 : decode zxm22.2.1 31 = .ok (.getfield 10, 3) := by decide +kernel
theorem zd22_34 : decode zxm22.2.1 34 = .ok (.iload_n 2, 1) := by decide +kernel
theorem zd22_35 : decode zxm22.2.1 35 = .ok (.putfield 167, 3) := by decide +kernel
theorem zd22_38 : decode zxm22.2.1 38 = .ok (.iconst 1, 1) := by decide +kernel
theorem zd22_39 : decode zxm22.2.1 39 = .ok (.ireturn, 1) := by decide +kernel
theorem zt_X_sight {x1 : Int} {x2 : Int} {f0 : Int} {f1 : Int} {o : Int × Int × Int} (h : zf_X_sight x1 x2 f0 f1 = some o) : zv_Fn z_TB z_cl z_KX zy_X_sight zxm22 (1, 60) [.inr 0, .inl x1, .inl x2] [.inl f0, .inl f1] [] (some o.1) [.inl o.2.1, .inl o.2.2] [] := zv_meth (K := (z_KF0, z_KC0, z_KL0, z_KT0, [], [], [], none)) (FT := z_FT) (MT := z_MT) (n := 3) zxp22 (z_ks0 _ (fun _ h => List.mem_cons_of_mem _ h) _ _ _ _ (fun j r h _ => by cases h)) (fun _ _ => zs_KX_p) zyw_X_sight (fun va F G h => by obtain ⟨rfl, _⟩ := h; rfl) (fun va F G h => by obtain ⟨rfl, _⟩ := h; rfl) rfl fun good va F G hB hret hvret hP => by
  obtain ⟨rfl, rfl, rfl⟩ := hP
  unfold zf_X_sight at h
  refine zv_ild hB zd22_0 rfl rfl ?_
  refine zv_con hB zd22_1 rfl ?_
  refine zv_con hB zd22_2 rfl ?_
  obtain ⟨r1, hr1, h⟩ := zi_bind h
  refine zv_cs hB (zv_emq (va2 := [.inl x1, .inl 0, .inl 11]) (F := [.inl f0, .inl f1]) (F' := [.inl f0, .inl f1]) (G := []) (G' := []) (ρ := []) (φ := []) (ψ := []) [none, none] [] zyw_X_isWithin zyw_X_sight zye_X_sight (by decide +kernel) (zt_X_isWithin hr1) trivial trivial rfl rfl rfl rfl rfl rfl rfl) zd22_4 zxt15 rfl (by decide) (by decide) rfl ?_
  refine zv_zeq hB zd22_7 rfl (fun hc2 => ?_) (fun hc2 => ?_)
  · rw [if_pos hc2] at h
    refine zv_con hB zd22_20 rfl ?_
    have hw := Option.some.inj h
    subst hw
    exact hret _ _ _ _ _ zd22_21 (by constructor <;> decide) ⟨rfl, rfl, rfl⟩
  · rw [if_neg hc2] at h
    refine zv_ild hB zd22_10 rfl rfl ?_
    refine zv_con hB zd22_11 rfl ?_
    refine zv_con hB zd22_12 rfl ?_
    obtain ⟨r3, hr3, h⟩ := zi_bind h
    refine zv_cs hB (zv_emq (va2 := [.inl x2, .inl 0, .inl 11]) (F := [.inl f0, .inl f1]) (F' := [.inl f0, .inl f1]) (G := []) (G' := []) (ρ := []) (φ := []) (ψ := []) [none, none] [] zyw_X_isWithin zyw_X_sight zye_X_sight (by decide +kernel) (zt_X_isWithin hr3) trivial trivial rfl rfl rfl rfl rfl rfl rfl) zd22_14 zxt15 rfl (by decide) (by decide) rfl ?_
    refine zv_zne hB zd22_17 rfl (fun hc4 => ?_) (fun hc4 => ?_)
    · rw [if_neg hc4] at h
      refine zv_ald hB zd22_22 rfl rfl rfl ?_
      refine zv_getr hB zd22_23 rfl ?_
      refine zv_ild hB zd22_26 rfl rfl ?_
      refine zv_putf hB zd22_27 rfl rfl (fun h => by cases h) rfl ?_
      refine zv_ald hB zd22_30 rfl rfl rfl ?_
      refine zv_getr hB zd22_31 rfl ?_
      refine zv_ild hB zd22_34 rfl rfl ?_
      refine zv_putf hB zd22_35 rfl rfl (fun h => by cases h) rfl ?_
      refine zv_con hB zd22_38 rfl ?_
      have hw := Option.some.inj h
      subst hw
      exact hret _ _ _ _ _ zd22_39 (by constructor <;> decide) ⟨rfl, rfl, rfl⟩
    · rw [if_pos hc4] at h
      refine zv_con hB zd22_20 rfl ?_
      have hw := Option.some.inj h
      subst hw
      exact hret _ _ _ _ _ zd22_21 (by constructor <;> decide) ⟨rfl, rfl, rfl⟩
/-! X_placeOf (II)I -/
-- names: 
-- fields: ; arrays: ; out: [('ret', None)]
abbrev zy_X_placeOf : zNL := (0, [], [], [], [])
theorem zyw_X_placeOf : zv_wf zy_X_placeOf = true := by decide +kernel
theorem zye_X_placeOf : zv_ek2 zy_X_placeOf = true := by decide +kernel
def zf_X_placeOf (x0 : Int) (x1 : Int) : Option (Int) := some (zi_w ((zi_w (24 * x1)) + x0))
theorem zd24_0 : decode zxm24.2.1 0 = .ok (.bipush 24, 2) := by decide +kernel
theorem zd24_2 : decode zxm24.2.1 2 = .ok (.iload_n 1, 1) := by decide +kernel
theorem zd24_3 : decode zxm24.2.1 3 = .ok (.imul, 1) := by decide +kernel
theorem zd24_4 : decode zxm24.2.1 4 = .ok (.iload_n 0, 1) := by decide +kernel
theorem zd24_5 : decode zxm24.2.1 5 = .ok (.iadd, 1) := by decide +kernel
theorem zd24_6 : decode zxm24.2.1 6 = .ok (.ireturn, 1) := by decide +kernel
theorem zt_X_placeOf {x0 : Int} {x1 : Int} {o : Int} (h : zf_X_placeOf x0 x1 = some o) : zv_Fn z_TB z_cl z_KX zy_X_placeOf zxm24 (0, 0) [.inl x0, .inl x1] [] [] (some o) [] [] := zv_meth (K := (z_KF0, z_KC0, z_KL0, z_KT0, [], [], [], none)) (FT := z_FT) (MT := z_MT) (n := 2) zxp24 (z_ks0 _ (fun _ h => List.mem_cons_of_mem _ h) _ _ _ _ (fun j r h _ => by cases h)) (fun _ _ => zs_KX_p) zyw_X_placeOf (fun va F G h => by obtain ⟨rfl, _⟩ := h; rfl) (fun va F G h => by obtain ⟨rfl, _⟩ := h; rfl) rfl fun good va F G hB hret hvret hP => by
  obtain ⟨rfl, rfl, rfl⟩ := hP
  unfold zf_X_placeOf at h
  refine zv_con hB zd24_0 rfl ?_
  refine zv_ild hB zd24_2 rfl rfl ?_
  refine zv_mulw hB zd24_3 ?_
  refine zv_ild hB zd24_4 rfl rfl ?_
  refine zv_addw hB zd24_5 ?_
  have hw := Option.some.inj h
  subst hw
  exact hret _ _ _ _ _ zd24_6 (by trivial) ⟨rfl, rfl, rfl⟩
/-! Sea_hasShip (I)Z -/
-- names: 0 Sea('arg', 0)
-- fields: f0 = 0.shipsTold_; arrays: ; out: [('ret', None)]
abbrev zy_Sea_hasShip : zNL := (1, [(0, 2)], [(0, 2, 1, 0)], [], [])
theorem zyw_Sea_hasShip : zv_wf zy_Sea_hasShip = true := by decide +kernel
theorem zye_Sea_hasShip : zv_ek2 zy_Sea_hasShip = true := by decide +kernel
def zf_Sea_hasShip (x1 : Int) (f0 : Int) : Option (Int) := if x1 < 0 then (some 0) else (if x1 < 6 then (if (zi_and (zi_shr f0 x1) 1) = 0 then (some 0) else (some 1)) else (some 0))
theorem zd26_0 : decode zxm26.2.1 0 = .ok (.iload_n 1, 1) := by decide +kernel
theorem zd26_1 : decode zxm26.2.1 1 = .ok (.ifCond .lt 24, 3) := by decide +kernel
theorem zd26_4 : decode zxm26.2.1 4 = .ok (.iload_n 1, 1) := by decide +kernel
theorem zd26_5 : decode zxm26.2.1 5 = .ok (.bipush 6, 2) := by decide +kernel
theorem zd26_7 : decode zxm26.2.1 7 = .ok (.if_icmp .ge 18, 3) := by decide +kernel
theorem zd26_10 : decode zxm26.2.1 10 = .ok (.aload_n 0, 1) := by decide +kernel
theorem zd26_11 : decode zxm26.2.1 11 = .ok (.getfield 15, 3) := by decide +kernel
theorem zd26_14 : decode zxm26.2.1 14 = .ok (.iload_n 1, 1) := by decide +kernel
theorem zd26_15 : decode zxm26.2.1 15 = .ok (.ishr, 1) := by decide +kernel
theorem zd26_16 : decode zxm26.2.1 16 = .ok (.iconst 1, 1) := by decide +kernel
theorem zd26_17 : decode zxm26.2.1 17 = .ok (.iand, 1) := by decide +kernel
theorem zd26_18 : decode zxm26.2.1 18 = .ok (.ifCond .eq 7, 3) := by decide +kernel
theorem zd26_21 : decode zxm26.2.1 21 = .ok (.iconst 1, 1) := by decide +kernel
theorem zd26_22 : decode zxm26.2.1 22 = .ok (.goto 4, 3) := by decide +kernel
theorem zd26_25 : decode zxm26.2.1 25 = .ok (.iconst 0, 1) := by decide +kernel
theorem zd26_26 : decode zxm26.2.1 26 = .ok (.ireturn, 1) := by decide +kernel
theorem zt_Sea_hasShip {x1 : Int} {f0 : Int} {o : Int} (h : zf_Sea_hasShip x1 f0 = some o) : zv_Fn z_TB z_cl z_KX zy_Sea_hasShip zxm26 (0, 0) [.inr 0, .inl x1] [.inl f0] [] (some o) [.inl f0] [] := zv_meth (K := (z_KF7, z_KC7, z_KL7, z_KT7, [], [], [], none)) (FT := z_FT) (MT := z_MT) (n := 2) zxp26 (z_ks7 _ (fun _ h => List.mem_cons_of_mem _ h) _ _ _ _ (fun j r h _ => by cases h)) (fun _ _ => zs_KX_p) zyw_Sea_hasShip (fun va F G h => by obtain ⟨rfl, _⟩ := h; rfl) (fun va F G h => by obtain ⟨rfl, _⟩ := h; rfl) rfl fun good va F G hB hret hvret hP => by
  obtain ⟨rfl, rfl, rfl⟩ := hP
  unfold zf_Sea_hasShip at h
  refine zv_ild hB zd26_0 rfl rfl ?_
  refine zv_zlt hB zd26_1 rfl (fun hc1 => ?_) (fun hc1 => ?_)
  · rw [if_pos hc1] at h
    refine zv_con hB zd26_25 rfl ?_
    have hw := Option.some.inj h
    subst hw
    exact hret _ _ _ _ _ zd26_26 (by constructor <;> decide) ⟨rfl, rfl, rfl⟩
  · rw [if_neg (Int.not_lt.mpr hc1)] at h
    refine zv_ild hB zd26_4 rfl rfl ?_
    refine zv_con hB zd26_5 rfl ?_
    refine zv_cge hB zd26_7 rfl (fun hc2 => ?_) (fun hc2 => ?_)
    · rw [if_neg (Int.not_lt.mpr hc2)] at h
      refine zv_con hB zd26_25 rfl ?_
      have hw := Option.some.inj h
      subst hw
      exact hret _ _ _ _ _ zd26_26 (by constructor <;> decide) ⟨rfl, rfl, rfl⟩
    · rw [if_pos hc2] at h
      refine zv_ald hB zd26_10 rfl rfl rfl ?_
      refine zv_getf hB zd26_11 rfl rfl (fun _ _ => ?_)
      refine zv_ild hB zd26_14 rfl rfl ?_
      refine zv_shrw hB zd26_15 ?_
      refine zv_con hB zd26_16 rfl ?_
      refine zv_andw hB zd26_17 ?_
      refine zv_zeq hB zd26_18 rfl (fun hc3 => ?_) (fun hc3 => ?_)
      · rw [if_pos hc3] at h
        refine zv_con hB zd26_25 rfl ?_
        have hw := Option.some.inj h
        subst hw
        exact hret _ _ _ _ _ zd26_26 (by constructor <;> decide) ⟨rfl, rfl, rfl⟩
      · rw [if_neg hc3] at h
        refine zv_con hB zd26_21 rfl ?_
        refine zv_goto hB zd26_22 rfl ?_
        have hw := Option.some.inj h
        subst hw
        exact hret _ _ _ _ _ zd26_26 (by constructor <;> decide) ⟨rfl, rfl, rfl⟩
/-! Sea_hasShipAt (I)Z -/
-- names: 0 Sea('arg', 0), 1 (0, 6)(0, 2, 2)
-- fields: f0 = 0.shipsTold_; arrays: g0 = 1; out: [('ret', None)]
abbrev zy_Sea_hasShipAt : zNL := (2, [(0, 2)], [(0, 2, 1, 0)], [(0, 2, 2, 1)], [(1, 0, 6, 0)])
theorem zyw_Sea_hasShipAt : zv_wf zy_Sea_hasShipAt = true := by decide +kernel
theorem zye_Sea_hasShipAt : zv_ek2 zy_Sea_hasShipAt = true := by decide +kernel
def zf_Sea_hasShipAt_l0_b (x1 : Int) (f0 : Int) (g0 : (Int → Int)) (rec : Int → Option (((Unit) ⊕ (Int)))) (x2 : Int) : Option (((Unit) ⊕ (Int))) := if x2 < 6 then ((zf_Sea_hasShip x2 f0).bind fun r2 => (if r2 = 0 then (rec (zi_w (x2 + 1))) else (cond (zi_ix x2 6) (if (g0 x2) = x1 then (some (.inr 1)) else (rec (zi_w (x2 + 1)))) none))) else (some (.inl ()))
def zf_Sea_hasShipAt_l0 (x1 : Int) (f0 : Int) (g0 : (Int → Int)) : Nat → Int → Option (((Unit) ⊕ (Int)))
  | 0, _ => none
  | n + 1, x2 => zf_Sea_hasShipAt_l0_b x1 f0 g0 (zf_Sea_hasShipAt_l0 x1 f0 g0 n) x2
def zf_Sea_hasShipAt (x1 : Int) (f0 : Int) (g0 : (Int → Int)) : Option (Int) := (zf_Sea_hasShipAt_l0 x1 f0 g0 zi_fu 0).bind fun q6 => Sum.elim (fun e7 => (some 0)) (fun w8 => some w8) q6
theorem zd25_0 : decode zxm25.2.1 0 = .ok (.iconst 0, 1) := by decide +kernel
theorem zd25_1 : decode zxm25.2.1 1 = .ok (.istore_n 2, 1) := by decide +kernel
theorem zd25_2 : decode zxm25.2.1 2 = .ok (.iload_n 2, 1) := by decide +kernel
theorem zd25_3 : decode zxm25.2.1 3 = .ok (.bipush 6, 2) := by decide +kernel
theorem zd25_5 : decode zxm25.2.1 5 = .ok (.if_icmp .ge 29, 3) := by decide +kernel
theorem zd25_8 : decode zxm25.2.1 8 = .ok (.aload_n 0, 1) := by decide +kernel
theorem zd25_9 : decode zxm25.2.1 9 = .ok (.iload_n 2, 1) := by decide +kernel
theorem zd25_10 : decode zxm25.2.1 10 = .ok (.invokevirtual 34, 3) := by decide +kernel
theorem zd25_13 : decode zxm25.2.1 13 = .ok (.ifCond .eq 15, 3) := by decide +kernel
theorem zd25_16 : decode zxm25.2.1 16 = .ok (.aload_n 0, 1) := by decide +kernel
theorem zd25_17 : decode zxm25.2.1 17 = .ok (.getfield 19, 3) := by decide +kernel
theorem zd25_20 : decode zxm25.2.1 20 = .ok (.iload_n 2, 1) := by decide +kernel
theorem zd25_21 : decode zxm25.2.1 21 = .ok (.iaload, 1) := by decide +kernel
theorem zd25_22 : decode zxm25.2.1 22 = .ok (.iload_n 1, 1) := by decide +kernel
theorem zd25_23 : decode zxm25.2.1 23 = .ok (.if_icmp .ne 5, 3) := by decide +kernel
theorem zd25_26 : decode zxm25.2.1 26 = .ok (.iconst 1, 1) := by decide +kernel
theorem zd25_27 : decode zxm25.2.1 27 = .ok (.ireturn, 1) := by decide +kernel
theorem zd25_28 : decode zxm25.2.1 28 = .ok (.iinc 2 1, 3) := by decide +kernel
theorem zd25_31 : decode zxm25.2.1 31 = .ok (.goto (-29), 3) := by decide +kernel
theorem zd25_34 : decode zxm25.2.1 34 = .ok (.iconst 0, 1) := by decide +kernel
theorem zd25_35 : decode zxm25.2.1 35 = .ok (.ireturn, 1) := by decide +kernel
theorem zt_Sea_hasShipAt {x1 : Int} {f0 : Int} {g0 : (Int → Int)} {o : Int} (h : zf_Sea_hasShipAt x1 f0 g0 = some o) : zv_Fn z_TB z_cl z_KX zy_Sea_hasShipAt zxm25 (1, 60) [.inr 0, .inl x1] [.inl f0] [g0] (some o) [.inl f0] [g0] := zv_meth (K := (z_KF7, z_KC7, z_KL7, z_KT7, [], [], [], none)) (FT := z_FT) (MT := z_MT) (n := 2) zxp25 (z_ks7 _ (fun _ h => List.mem_cons_of_mem _ h) _ _ _ _ (fun j r h _ => by cases h)) (fun _ _ => zs_KX_p) zyw_Sea_hasShipAt (fun va F G h => by obtain ⟨rfl, _⟩ := h; rfl) (fun va F G h => by obtain ⟨rfl, _⟩ := h; rfl) rfl fun good va F G hB hret hvret hP => by
  obtain ⟨rfl, rfl, rfl⟩ := hP
  have l0 : ∀ (n : Nat) (x1 : Int) (x2 : Int) (q : ((Unit) ⊕ (Int))), zf_Sea_hasShipAt_l0 x1 f0 g0 n x2 = some q → (Sum.elim (fun e : Unit => good 34 [.inr 1000, .inr 1000, .inr 1000] [] [.inl f0] [g0]) (fun w : Int => w = o) q) → good 2 [.inr 0, .inl x1, .inl x2] [] [.inl f0] [g0] := by
    intro n
    induction n with
    | zero => intro x1 x2 q h; exact absurd (show none = some q from h) (fun h => by cases h)
    | succ n ih =>
      intro x1 x2 q h hK
      replace h : zf_Sea_hasShipAt_l0_b x1 f0 g0 (zf_Sea_hasShipAt_l0 x1 f0 g0 n) x2 = some q := h
      unfold zf_Sea_hasShipAt_l0_b at h
      refine zv_ild hB zd25_2 rfl rfl ?_
      refine zv_con hB zd25_3 rfl ?_
      refine zv_cge hB zd25_5 rfl (fun hc1 => ?_) (fun hc1 => ?_)
      · rw [if_neg (Int.not_lt.mpr hc1)] at h
        have hq := Option.some.inj h
        subst hq
        refine zv_wk hB (L' := [.inr 1000, .inr 1000, .inr 1000]) (F' := [.inl f0]) ⟨fun (h : zv_is (.inr 1000)) => (Nat.lt_irrefl 1000 h).elim, fun (h : zv_is (.inr 1000)) => (Nat.lt_irrefl 1000 h).elim, fun (h : zv_is (.inr 1000)) => (Nat.lt_irrefl 1000 h).elim, trivial⟩ ⟨fun _ => rfl, trivial⟩ ?_
        exact hK
      · rw [if_pos hc1] at h
        refine zv_ald hB zd25_8 rfl rfl rfl ?_
        refine zv_ild hB zd25_9 rfl rfl ?_
        obtain ⟨r2, hr2, h⟩ := zi_bind h
        refine zv_cv hB (zv_emq (va2 := [.inr 0, .inl x2]) (F := [.inl f0]) (F' := [.inl f0]) (G := [g0]) (G' := [g0]) (ρ := [0]) (φ := [0]) (ψ := []) [some 0] [none] zyw_Sea_hasShip zyw_Sea_hasShipAt zye_Sea_hasShipAt (by decide +kernel) (zt_Sea_hasShip hr2) ⟨⟨_, rfl, fun _ => rfl⟩, trivial⟩ trivial rfl rfl rfl rfl rfl rfl rfl) zd25_10 zxt26 rfl (by decide) (by decide) rfl ?_
        refine zv_zeq hB zd25_13 rfl (fun hc3 => ?_) (fun hc3 => ?_)
        · rw [if_pos hc3] at h
          refine zv_iincw hB zd25_28 rfl rfl ?_
          refine zv_goto hB zd25_31 rfl ?_
          exact ih _ _ q h hK
        · rw [if_neg hc3] at h
          refine zv_ald hB zd25_16 rfl rfl rfl ?_
          refine zv_getr hB zd25_17 rfl ?_
          refine zv_ild hB zd25_20 rfl rfl ?_
          obtain ⟨c4, h⟩ := zi_if h
          refine zv_iald hB zd25_21 rfl rfl (zi_ix_ok c4).1 (zi_ix_ok c4).2 (fun _ _ => ?_)
          refine zv_ild hB zd25_22 rfl rfl ?_
          refine zv_cne hB zd25_23 rfl (fun hc5 => ?_) (fun hc5 => ?_)
          · rw [if_neg hc5] at h
            refine zv_iincw hB zd25_28 rfl rfl ?_
            refine zv_goto hB zd25_31 rfl ?_
            exact ih _ _ q h hK
          · rw [if_pos hc5] at h
            refine zv_con hB zd25_26 rfl ?_
            have hw : 1 = o := zi_rk (Option.some.inj h) hK
            subst hw
            exact hret _ _ _ _ _ zd25_27 (by constructor <;> decide) ⟨rfl, rfl, rfl⟩
  unfold zf_Sea_hasShipAt at h
  refine zv_con hB zd25_0 rfl ?_
  refine zv_ist hB zd25_1 rfl rfl rfl ?_
  obtain ⟨q6, hq6, h⟩ := zi_bind h
  refine l0 _ _ _ q6 hq6 ?_
  rcases q6 with e7 | w8
  · replace h := zi_sl h
    show good 34 [.inr 1000, .inr 1000, .inr 1000] [] [.inl f0] [g0]
    refine zv_con hB zd25_34 rfl ?_
    have hw := Option.some.inj h
    subst hw
    exact hret _ _ _ _ _ zd25_35 (by constructor <;> decide) ⟨rfl, rfl, rfl⟩
  · exact Option.some.inj h
/-! Sea_setLand (IIZ)V -/
-- names: 0 Sea('arg', 0), 1 (0, 12)(0, 2, 0)
-- fields: ; arrays: g0 = 1; out: [('g', 0)]
abbrev zy_Sea_setLand : zNL := (2, [(0, 2)], [], [(0, 2, 0, 1)], [(1, 0, 12, 0)])
theorem zyw_Sea_setLand : zv_wf zy_Sea_setLand = true := by decide +kernel
theorem zye_Sea_setLand : zv_ek2 zy_Sea_setLand = true := by decide +kernel
def zf_Sea_setLand (x1 : Int) (x2 : Int) (x3 : Int) (g0 : (Int → Int)) : Option ((Int → Int)) := if x3 = 0 then (cond (zi_ix x2 12) (some (zv_up g0 x2 (zi_and (g0 x2) (zi_xor (zi_shl 1 x1) (-1))))) none) else (cond (zi_ix x2 12) (some (zv_up g0 x2 (zi_or (g0 x2) (zi_shl 1 x1)))) none)
theorem zd27_0 : decode zxm27.2.1 0 = .ok (.iload_n 3, 1) := by decide +kernel
theorem zd27_1 : decode zxm27.2.1 1 = .ok (.ifCond .eq 18, 3) := by decide +kernel
theorem zd27_4 : decode zxm27.2.1 4 = .ok (.aload_n 0, 1) := by decide +kernel
theorem zd27_5 : decode zxm27.2.1 5 = .ok (.getfield 9, 3) := by decide +kernel
theorem zd27_8 : decode zxm27.2.1 8 = .ok (.iload_n 2, 1) := by decide +kernel
theorem zd27_9 : decode zxm27.2.1 9 = .ok (.dup2, 1) := by decide +kernel
theorem zd27_10 : decode zxm27.2.1 10 = .ok (.iaload, 1) := by decide +kernel
theorem zd27_11 : decode zxm27.2.1 11 = .ok (.iconst 1, 1) := by decide +kernel
theorem zd27_12 : decode zxm27.2.1 12 = .ok (.iload_n 1, 1) := by decide +kernel
theorem zd27_13 : decode zxm27.2.1 13 = .ok (.ishl, 1) := by decide +kernel
theorem zd27_14 : decode zxm27.2.1 14 = .ok (.ior, 1) := by decide +kernel
theorem zd27_15 : decode zxm27.2.1 15 = .ok (.iastore, 1) := by decide +kernel
theorem zd27_16 : decode zxm27.2.1 16 = .ok (.goto 17, 3) := by decide +kernel
theorem zd27_19 : decode zxm27.2.1 19 = .ok (.aload_n 0, 1) := by decide +kernel
theorem zd27_20 : decode zxm27.2.1 20 = .ok (.getfield 9, 3) := by decide +kernel
theorem zd27_23 : decode zxm27.2.1 23 = .ok (.iload_n 2, 1) := by decide +kernel
theorem zd27_24 : decode zxm27.2.1 24 = .ok (.dup2, 1) := by decide +kernel
theorem zd27_25 : decode zxm27.2.1 25 = .ok (.iaload, 1) := by decide +kernel
theorem zd27_26 : decode zxm27.2.1 26 = .ok (.iconst 1, 1) := by decide +kernel
theorem zd27_27 : decode zxm27.2.1 27 = .ok (.iload_n 1, 1) := by decide +kernel
theorem zd27_28 : decode zxm27.2.1 28 = .ok (.ishl, 1) := by decide +kernel
theorem zd27_29 : decode zxm27.2.1 29 = .ok (.iconst (-1), 1) := by decide +kernel
theorem zd27_30 : decode zxm27.2.1 30 = .ok (.ixor, 1) := by decide +kernel
theorem zd27_31 : decode zxm27.2.1 31 = .ok (.iand, 1) := by decide +kernel
theorem zd27_32 : decode zxm27.2.1 32 = .ok (.iastore, 1) := by decide +kernel
theorem zd27_33 : decode zxm27.2.1 33 = .ok (.return_, 1) := by decide +kernel
theorem zt_Sea_setLand {x1 : Int} {x2 : Int} {x3 : Int} {g0 : (Int → Int)} {o : (Int → Int)} (h : zf_Sea_setLand x1 x2 x3 g0 = some o) : zv_Fn z_TB z_cl z_KX zy_Sea_setLand zxm27 (0, 0) [.inr 0, .inl x1, .inl x2, .inl x3] [] [g0] none [] [o] := zv_meth (K := (z_KF7, z_KC7, z_KL7, z_KT7, [], [], [], none)) (FT := z_FT) (MT := z_MT) (n := 4) zxp27 (z_ks7 _ (fun _ h => List.mem_cons_of_mem _ h) _ _ _ _ (fun j r h _ => by cases h)) (fun _ _ => zs_KX_p) zyw_Sea_setLand (fun va F G h => by obtain ⟨rfl, _⟩ := h; rfl) (fun va F G h => by obtain ⟨rfl, _⟩ := h; rfl) rfl fun good va F G hB hret hvret hP => by
  obtain ⟨rfl, rfl, rfl⟩ := hP
  unfold zf_Sea_setLand at h
  refine zv_ild hB zd27_0 rfl rfl ?_
  refine zv_zeq hB zd27_1 rfl (fun hc1 => ?_) (fun hc1 => ?_)
  · rw [if_pos hc1] at h
    refine zv_ald hB zd27_19 rfl rfl rfl ?_
    refine zv_getr hB zd27_20 rfl ?_
    refine zv_ild hB zd27_23 rfl rfl ?_
    refine zv_dup2 hB zd27_24 rfl rfl ?_
    obtain ⟨c2, h⟩ := zi_if h
    refine zv_iald hB zd27_25 rfl rfl (zi_ix_ok c2).1 (zi_ix_ok c2).2 (fun _ _ => ?_)
    refine zv_con hB zd27_26 rfl ?_
    refine zv_ild hB zd27_27 rfl rfl ?_
    refine zv_shlw hB zd27_28 ?_
    refine zv_con hB zd27_29 rfl ?_
    refine zv_xorw hB zd27_30 ?_
    refine zv_andw hB zd27_31 ?_
    refine zv_iast hB zd27_32 rfl rfl (zi_ix_ok c2).1 (zi_ix_ok c2).2 ?_
    have hw := Option.some.inj h
    subst hw
    exact hvret _ _ _ _ zd27_33 trivial ⟨rfl, rfl, rfl⟩
  · rw [if_neg hc1] at h
    refine zv_ald hB zd27_4 rfl rfl rfl ?_
    refine zv_getr hB zd27_5 rfl ?_
    refine zv_ild hB zd27_8 rfl rfl ?_
    refine zv_dup2 hB zd27_9 rfl rfl ?_
    obtain ⟨c3, h⟩ := zi_if h
    refine zv_iald hB zd27_10 rfl rfl (zi_ix_ok c3).1 (zi_ix_ok c3).2 (fun _ _ => ?_)
    refine zv_con hB zd27_11 rfl ?_
    refine zv_ild hB zd27_12 rfl rfl ?_
    refine zv_shlw hB zd27_13 ?_
    refine zv_orw hB zd27_14 ?_
    refine zv_iast hB zd27_15 rfl rfl (zi_ix_ok c3).1 (zi_ix_ok c3).2 ?_
    refine zv_goto hB zd27_16 rfl ?_
    have hw := Option.some.inj h
    subst hw
    exact hvret _ _ _ _ zd27_33 trivial ⟨rfl, rfl, rfl⟩
/-! X_land (IIZ)Z -/
-- names: 0 StarTales('arg', 0), 1 Sea(0, 0, 3), 2 (0, 6)(1, 2, 2), 3 (0, 12)(1, 2, 0)
-- fields: f0 = 1.shipsTold_; arrays: g0 = 2, g1 = 3; out: [('ret', None), ('g', 1)]
abbrev zy_X_land : zNL := (4, [(0, 0), (1, 2)], [(1, 2, 1, 0)], [(0, 0, 3, 1), (1, 2, 2, 2), (1, 2, 0, 3)], [(2, 0, 6, 0), (3, 0, 12, 1)])
theorem zyw_X_land : zv_wf zy_X_land = true := by decide +kernel
theorem zye_X_land : zv_ek2 zy_X_land = true := by decide +kernel
def zf_X_land (x1 : Int) (x2 : Int) (x3 : Int) (f0 : Int) (g0 : (Int → Int)) (g1 : (Int → Int)) : Option (Int × (Int → Int)) := (zf_X_isPlace x1 x2).bind fun r1 => (if r1 = 0 then (some (0, g1)) else ((zf_X_placeOf x1 x2).bind fun r3 => ((zf_Sea_hasShipAt r3 f0 g0).bind fun r4 => (if r4 = 0 then ((zf_Sea_setLand x1 x2 x3 g1).bind fun r6 => (some (1, r6))) else (some (0, g1))))))
theorem zd23_0 : decode zxm23.2.1 0 = .ok (.iload_n 1, 1) := by decide +kernel
theorem zd23_1 : decode zxm23.2.1 1 = .ok (.iload_n 2, 1) := by decide +kernel
theorem zd23_2 : decode zxm23.2.1 2 = .ok (.invokestatic 130, 3) := by decide +kernel
theorem zd23_5 : decode zxm23.2.1 5 = .ok (.ifCond .eq 18, 3) := by decide +kernel
theorem zd23_8 : decode zxm23.2.1 8 = .ok (.aload_n 0, 1) := by decide +kernel
theorem zd23_9 : decode zxm23.2.1 9 = .ok (.getfield 25, 3) := by decide +kernel
theorem zd23_12 : decode zxm23.2.1 12 = .ok (.iload_n 1, 1) := by decide +kernel
theorem zd23_13 : decode zxm23.2.1 13 = .ok (.iload_n 2, 1) := by decide +kernel
theorem zd23_14 : decode zxm23.2.1 14 = .ok (.invokestatic 170, 3) := by decide +kernel
theorem zd23_17 : decode zxm23.2.1 17 = .ok (.invokevirtual 174, 3) := by decide +kernel
theorem zd23_20 : decode zxm23.2.1 20 = .ok (.ifCond .eq 5, 3) := by decide +kernel
theorem zd23_23 : decode zxm23.2.1 23 = .ok (.iconst 0, 1) := by decide +kernel
theorem zd23_24 : decode zxm23.2.1 24 = .ok (.ireturn, 1) := by decide +kernel
theorem zd23_25 : decode zxm23.2.1 25 = .ok (.aload_n 0, 1) := by decide +kernel
theorem zd23_26 : decode zxm23.2.1 26 = .ok (.getfield 25, 3) := by decide +kernel
theorem zd23_29 : decode zxm23.2.1 29 = .ok (.iload_n 1, 1) := by decide +kernel
theorem zd23_30 : decode zxm23.2.1 30 = .ok (.iload_n 2, 1) := by decide +kernel
theorem zd23_31 : decode zxm23.2.1 31 = .ok (.iload_n 3, 1) := by decide +kernel
theorem zd23_32 : decode zxm23.2.1 32 = .ok (.invokevirtual 177, 3) := by decide +kernel
theorem zd23_35 : decode zxm23.2.1 35 = .ok (.iconst 1, 1) := by decide +kernel
theorem zd23_36 : decode zxm23.2.1 36 = .ok (.ireturn, 1) := by decide +kernel
theorem zt_X_land {x1 : Int} {x2 : Int} {x3 : Int} {f0 : Int} {g0 : (Int → Int)} {g1 : (Int → Int)} {o : Int × (Int → Int)} (h : zf_X_land x1 x2 x3 f0 g0 g1 = some o) : zv_Fn z_TB z_cl z_KX zy_X_land zxm23 (2, 120) [.inr 0, .inl x1, .inl x2, .inl x3] [.inl f0] [g0, g1] (some o.1) [.inl f0] [g0, o.2] := zv_meth (K := (z_KF0, z_KC0, z_KL0, z_KT0, [], [], [], none)) (FT := z_FT) (MT := z_MT) (n := 4) zxp23 (z_ks0 _ (fun _ h => List.mem_cons_of_mem _ h) _ _ _ _ (fun j r h _ => by cases h)) (fun _ _ => zs_KX_p) zyw_X_land (fun va F G h => by obtain ⟨rfl, _⟩ := h; rfl) (fun va F G h => by obtain ⟨rfl, _⟩ := h; rfl) rfl fun good va F G hB hret hvret hP => by
  obtain ⟨rfl, rfl, rfl⟩ := hP
  unfold zf_X_land at h
  refine zv_ild hB zd23_0 rfl rfl ?_
  refine zv_ild hB zd23_1 rfl rfl ?_
  obtain ⟨r1, hr1, h⟩ := zi_bind h
  refine zv_cs hB (zv_emq (va2 := [.inl x1, .inl x2]) (F := [.inl f0]) (F' := [.inl f0]) (G := [g0, g1]) (G' := [g0, g1]) (ρ := []) (φ := []) (ψ := []) [none] [none, none] zyw_X_isPlace zyw_X_land zye_X_land (by decide +kernel) (zt_X_isPlace hr1) trivial trivial rfl rfl rfl rfl rfl rfl rfl) zd23_2 zxt16 rfl (by decide) (by decide) rfl ?_
  refine zv_zeq hB zd23_5 rfl (fun hc2 => ?_) (fun hc2 => ?_)
  · rw [if_pos hc2] at h
    refine zv_con hB zd23_23 rfl ?_
    have hw := Option.some.inj h
    subst hw
    exact hret _ _ _ _ _ zd23_24 (by constructor <;> decide) ⟨rfl, rfl, rfl⟩
  · rw [if_neg hc2] at h
    refine zv_ald hB zd23_8 rfl rfl rfl ?_
    refine zv_getr hB zd23_9 rfl ?_
    refine zv_ild hB zd23_12 rfl rfl ?_
    refine zv_ild hB zd23_13 rfl rfl ?_
    obtain ⟨r3, hr3, h⟩ := zi_bind h
    refine zv_cs hB (zv_emq (va2 := [.inl x1, .inl x2]) (F := [.inl f0]) (F' := [.inl f0]) (G := [g0, g1]) (G' := [g0, g1]) (ρ := []) (φ := []) (ψ := []) [none] [none, none] zyw_X_placeOf zyw_X_land zye_X_land (by decide +kernel) (zt_X_placeOf hr3) trivial trivial rfl rfl rfl rfl rfl rfl rfl) zd23_14 zxt24 rfl (by decide) (by decide) rfl ?_
    obtain ⟨r4, hr4, h⟩ := zi_bind h
    refine zv_cv hB (zv_emq (va2 := [.inr 1, .inl r3]) (F := [.inl f0]) (F' := [.inl f0]) (G := [g0, g1]) (G' := [g0, g1]) (ρ := [1, 2]) (φ := [0]) (ψ := [0]) [some 0] [some 0, none] zyw_Sea_hasShipAt zyw_X_land zye_X_land (by decide +kernel) (zt_Sea_hasShipAt hr4) ⟨⟨_, rfl, fun _ => rfl⟩, trivial⟩ ⟨rfl, trivial⟩ rfl rfl rfl rfl rfl rfl rfl) zd23_17 zxt25 rfl (by decide) (by decide) rfl ?_
    refine zv_zeq hB zd23_20 rfl (fun hc5 => ?_) (fun hc5 => ?_)
    · rw [if_pos hc5] at h
      refine zv_ald hB zd23_25 rfl rfl rfl ?_
      refine zv_getr hB zd23_26 rfl ?_
      refine zv_ild hB zd23_29 rfl rfl ?_
      refine zv_ild hB zd23_30 rfl rfl ?_
      refine zv_ild hB zd23_31 rfl rfl ?_
      obtain ⟨r6, hr6, h⟩ := zi_bind h
      refine zv_cv hB (zv_emq (va2 := [.inr 1, .inl x1, .inl x2, .inl x3]) (F := [.inl f0]) (F' := [.inl f0]) (G := [g0, g1]) (G' := [g0, r6]) (ρ := [1, 3]) (φ := []) (ψ := [1]) [none] [none, some 0] zyw_Sea_setLand zyw_X_land zye_X_land (by decide +kernel) (zt_Sea_setLand hr6) trivial ⟨rfl, trivial⟩ rfl rfl rfl rfl rfl rfl rfl) zd23_32 zxt27 rfl (by decide) (by decide) rfl ?_
      refine zv_con hB zd23_35 rfl ?_
      have hw := Option.some.inj h
      subst hw
      exact hret _ _ _ _ _ zd23_36 (by constructor <;> decide) ⟨rfl, rfl, rfl⟩
    · rw [if_neg hc5] at h
      refine zv_con hB zd23_23 rfl ?_
      have hw := Option.some.inj h
      subst hw
      exact hret _ _ _ _ _ zd23_24 (by constructor <;> decide) ⟨rfl, rfl, rfl⟩
/-! X_rowOf (I)I -/
-- names: 
-- fields: ; arrays: ; out: [('ret', None)]
abbrev zy_X_rowOf : zNL := (0, [], [], [], [])
theorem zyw_X_rowOf : zv_wf zy_X_rowOf = true := by decide +kernel
theorem zye_X_rowOf : zv_ek2 zy_X_rowOf = true := by decide +kernel
def zf_X_rowOf (x0 : Int) : Option (Int) := some (zi_div x0 24)
theorem zd30_0 : decode zxm30.2.1 0 = .ok (.iload_n 0, 1) := by decide +kernel
theorem zd30_1 : decode zxm30.2.1 1 = .ok (.bipush 24, 2) := by decide +kernel
theorem zd30_3 : decode zxm30.2.1 3 = .ok (.idiv, 1) := by decide +kernel
theorem zd30_4 : decode zxm30.2.1 4 = .ok (.ireturn, 1) := by decide +kernel
theorem zt_X_rowOf {x0 : Int} {o : Int} (h : zf_X_rowOf x0 = some o) : zv_Fn z_TB z_cl z_KX zy_X_rowOf zxm30 (0, 0) [.inl x0] [] [] (some o) [] [] := zv_meth (K := (z_KF0, z_KC0, z_KL0, z_KT0, [], [], [], none)) (FT := z_FT) (MT := z_MT) (n := 1) zxp30 (z_ks0 _ (fun _ h => List.mem_cons_of_mem _ h) _ _ _ _ (fun j r h _ => by cases h)) (fun _ _ => zs_KX_p) zyw_X_rowOf (fun va F G h => by obtain ⟨rfl, _⟩ := h; rfl) (fun va F G h => by obtain ⟨rfl, _⟩ := h; rfl) rfl fun good va F G hB hret hvret hP => by
  obtain ⟨rfl, rfl, rfl⟩ := hP
  unfold zf_X_rowOf at h
  refine zv_ild hB zd30_0 rfl rfl ?_
  refine zv_con hB zd30_1 rfl ?_
  refine zv_divw hB zd30_3 (by decide) ?_
  have hw := Option.some.inj h
  subst hw
  exact hret _ _ _ _ _ zd30_4 (by trivial) ⟨rfl, rfl, rfl⟩
end
