/-! The lowest bit of a set. -/
theorem zg_pow : ∀ {w n : Nat}, 0 < n → n < 2 ^ w → ∃ k, n &&& (2 ^ w - n) = 2 ^ k ∧ 2 ^ k ≤ n
  | 0, n, h1, h2 => by
    have : n < 1 := h2
    omega
  | w + 1, n, h1, h2 => by
    have e2 : 2 ^ (w + 1) = 2 * 2 ^ w := by rw [Nat.pow_succ]; omega
    rcases Nat.mod_two_eq_zero_or_one n with h | h
    · obtain ⟨k, k1, k2⟩ := zg_pow (w := w) (n := n / 2) (by omega) (by omega)
      have e3 : 2 ^ (k + 1) = 2 * 2 ^ k := by rw [Nat.pow_succ]; omega
      refine ⟨k + 1, Nat.eq_of_testBit_eq fun i => ?_, by omega⟩
      cases i with
      | zero =>
        rw [Nat.testBit_and, Nat.testBit_zero, Nat.testBit_zero, Nat.testBit_zero, h]
        have : 2 ^ (k + 1) % 2 = 0 := by omega
        rw [this]; rfl
      | succ i =>
        rw [Nat.testBit_and, Nat.testBit_succ, Nat.testBit_succ, Nat.testBit_succ, show (2 ^ (w + 1) - n) / 2 = 2 ^ w - n / 2 by omega, show 2 ^ (k + 1) / 2 = 2 ^ k by omega, ← k1, Nat.testBit_and]
    · refine ⟨0, Nat.eq_of_testBit_eq fun i => ?_, by show 1 ≤ n; omega⟩
      cases i with
      | zero =>
        rw [Nat.testBit_and, Nat.testBit_zero, Nat.testBit_zero, Nat.testBit_zero, h, show (2 ^ (w + 1) - n) % 2 = 1 by omega]
        rfl
      | succ i =>
        rw [Nat.testBit_and, Nat.testBit_succ, Nat.testBit_succ, Nat.testBit_succ, show (2 ^ (w + 1) - n) / 2 = 2 ^ w - (n / 2 + 1) by omega, Nat.testBit_two_pow_sub_succ (by omega)]
        cases (n / 2).testBit i <;> simp
theorem zg_lowest {x : Int32} (h1 : 1 ≤ x.toInt) (h2 : x.toInt < 16777216) : ∃ k : Nat, k < 24 ∧ (x &&& -x).toInt = 2 ^ k := by
  have l := zg_low h1
  have nx : ((x.toBitVec.toNat : Nat) : Int) = x.toInt := (z_nat (x := x) (by omega)).symm
  have n2 : (-x).toBitVec.toNat = 2 ^ 32 - x.toBitVec.toNat := by
    rw [Int32.toBitVec_neg, BitVec.toNat_neg]
    exact Nat.mod_eq_of_lt (by omega)
  obtain ⟨k, k1, k2⟩ := zg_pow (w := 32) (n := x.toBitVec.toNat) (by omega) (by have := x.toBitVec.isLt; omega)
  have e : (x &&& -x).toInt = ((2 ^ k : Nat) : Int) := by
    rw [z_nat (x := x &&& -x) (by omega), z_and_nat, n2, k1]
  refine ⟨k, ?_, by rw [e]; exact Int.natCast_pow 2 k⟩
  rcases Nat.lt_or_ge k 24 with q | q
  · exact q
  · exfalso
    have : 2 ^ 24 ≤ 2 ^ k := Nat.pow_le_pow_right (by omega) q
    have : (16777216 : Nat) ≤ 2 ^ k := this
    omega
def zg_v (k : Nat) : Int := if k = 24 then -1 else 2 ^ k - 1
theorem zg_lowest0 {x : Int32} (h1 : 0 ≤ x.toInt) (h2 : x.toInt < 16777216) : ∃ k : Nat, k < 25 ∧ (x &&& -x).toInt - 1 = zg_v k ∧ 0 ≤ (x &&& -x).toInt ∧ (x &&& -x).toInt ≤ 16777216 ∧ (1 ≤ x.toInt → k < 24) := by
  by_cases hx : x.toInt = 0
  · have e : x = 0 := z_int0 hx
    subst e
    exact ⟨24, by decide, by decide +kernel, by decide +kernel, by decide +kernel, fun h => by omega⟩
  · obtain ⟨k, hk, hk2⟩ := zg_lowest (x := x) (by omega) h2
    have h8 : 2 ^ k ≤ 2 ^ 24 := Nat.pow_le_pow_right (by omega) (by omega)
    have h8 : 2 ^ k ≤ 16777216 := h8
    have h7 : 1 ≤ 2 ^ k := Nat.one_le_two_pow
    have h9 : ((2 ^ k : Nat) : Int) = 2 ^ k := Int.natCast_pow 2 k
    refine ⟨k, by omega, ?_, by omega, by omega, fun _ => hk⟩
    unfold zg_v
    rw [if_neg (by omega), hk2]
def zn_ev (op : Int32 → Int32 → Int32) (a b : Int) : Int := (op (Int32.ofInt a) (Int32.ofInt b)).toInt
section ZLOWEST
variable {cl : List vw_C} {FT : Nat → Nat → FieldType} {KXf : (Nat → Nat) → Nat → State → Heap → Prop} {TBL : List Cond} {MT : List zM} {y : zNL} {mm : zM} {K : zK} {rm : Nat × Nat} {good : Nat → List zNV → List zNV → List Int → List (Int → Int) → Prop}
variable {pc : Nat} {L S : List zNV} {F : List Int} {G : List (Int → Int)}
theorem zn_binv (hB : zn_B cl FT KXf TBL MT y mm K rm good) {ins : Instr} {op : Int32 → Int32 → Int32} {a b : Int} (hd : decode mm.2.1 pc = .ok (ins, 1)) (ho : zn_bop ins = some op) (k : good (pc + 1) L (.inl (zn_ev op a b) :: S) F G) : good pc L (.inl b :: .inl a :: S) F G :=
  zn_bin hB hd ho fun u v hu hv => by
    have e1 : Int32.ofInt a = u := by rw [← hu]; exact Int32.ofInt_toInt u
    have e2 : Int32.ofInt b = v := by rw [← hv]; exact Int32.ofInt_toInt v
    unfold zn_ev at k
    rw [e1, e2] at k
    exact k
theorem zn_ushrv (hB : zn_B cl FT KXf TBL MT y mm K rm good) {a b : Int} (hd : decode mm.2.1 pc = .ok (.iushr, 1)) (k : good (pc + 1) L (.inl (zn_ev (fun x y => (x.toUInt32 >>> (y.toUInt32 &&& Int32.toUInt32 31)).toInt32) a b) :: S) F G) : good pc L (.inl b :: .inl a :: S) F G := by
  obtain ⟨p, l, e, R, s, m, args, below, meth, c, Q, OB, D, DA, sz, A, H0, Ts, cells, slots, ⟨hx, hb, hml, hD, hKS⟩, ⟨hsz, hXp, hX, -⟩, ⟨hwf, hinj, hge, hOB⟩, hg⟩ := hB
  refine (hg _ _ _ _ _).mpr fun H locs ls stk h1 h2 h3 h4 h5 => ?_
  obtain ⟨w, st, rfl, ⟨v, rfl, hv⟩, w2, st2, rfl, ⟨u, rfl, hu⟩, h6⟩ := h5
  have e1 : Int32.ofInt a = u := by rw [← hu]; exact Int32.ofInt_toInt u
  have e2 : Int32.ofInt b = v := by rw [← hv]; exact Int32.ofInt_toInt v
  unfold zn_ev at k
  rw [e1, e2] at k
  exact lv_iushr hx hb hd rfl ((hg _ _ _ _ _).mp k H locs ls _ h1 h2 h3 h4 ⟨_, _, rfl, ⟨_, rfl, rfl⟩, h6⟩)
end ZLOWEST
abbrev zy0 : zNL := (0, [], [], [], [])
theorem zd102_0 : decode zxm102.2.1 0 = .ok (.iload_n 0, 1) := by decide +kernel
theorem zd102_1 : decode zxm102.2.1 1 = .ok (.iload_n 0, 1) := by decide +kernel
theorem zd102_2 : decode zxm102.2.1 2 = .ok (.iconst 1, 1) := by decide +kernel
theorem zd102_3 : decode zxm102.2.1 3 = .ok (.iushr, 1) := by decide +kernel
theorem zd102_4 : decode zxm102.2.1 4 = .ok (.ldc_w 265, 3) := by decide +kernel
theorem zd102_7 : decode zxm102.2.1 7 = .ok (.iand, 1) := by decide +kernel
theorem zd102_8 : decode zxm102.2.1 8 = .ok (.isub, 1) := by decide +kernel
theorem zd102_9 : decode zxm102.2.1 9 = .ok (.istore_n 0, 1) := by decide +kernel
theorem zd102_10 : decode zxm102.2.1 10 = .ok (.iload_n 0, 1) := by decide +kernel
theorem zd102_11 : decode zxm102.2.1 11 = .ok (.ldc_w 266, 3) := by decide +kernel
theorem zd102_14 : decode zxm102.2.1 14 = .ok (.iand, 1) := by decide +kernel
theorem zd102_15 : decode zxm102.2.1 15 = .ok (.iload_n 0, 1) := by decide +kernel
theorem zd102_16 : decode zxm102.2.1 16 = .ok (.iconst 2, 1) := by decide +kernel
theorem zd102_17 : decode zxm102.2.1 17 = .ok (.iushr, 1) := by decide +kernel
theorem zd102_18 : decode zxm102.2.1 18 = .ok (.ldc_w 266, 3) := by decide +kernel
theorem zd102_21 : decode zxm102.2.1 21 = .ok (.iand, 1) := by decide +kernel
theorem zd102_22 : decode zxm102.2.1 22 = .ok (.iadd, 1) := by decide +kernel
theorem zd102_23 : decode zxm102.2.1 23 = .ok (.istore_n 0, 1) := by decide +kernel
theorem zd102_24 : decode zxm102.2.1 24 = .ok (.iload_n 0, 1) := by decide +kernel
theorem zd102_25 : decode zxm102.2.1 25 = .ok (.iload_n 0, 1) := by decide +kernel
theorem zd102_26 : decode zxm102.2.1 26 = .ok (.iconst 4, 1) := by decide +kernel
theorem zd102_27 : decode zxm102.2.1 27 = .ok (.iushr, 1) := by decide +kernel
theorem zd102_28 : decode zxm102.2.1 28 = .ok (.iadd, 1) := by decide +kernel
theorem zd102_29 : decode zxm102.2.1 29 = .ok (.ldc_w 267, 3) := by decide +kernel
theorem zd102_32 : decode zxm102.2.1 32 = .ok (.iand, 1) := by decide +kernel
theorem zd102_33 : decode zxm102.2.1 33 = .ok (.istore_n 0, 1) := by decide +kernel
theorem zd102_34 : decode zxm102.2.1 34 = .ok (.iload_n 0, 1) := by decide +kernel
theorem zd102_35 : decode zxm102.2.1 35 = .ok (.iload_n 0, 1) := by decide +kernel
theorem zd102_36 : decode zxm102.2.1 36 = .ok (.bipush 8, 2) := by decide +kernel
theorem zd102_38 : decode zxm102.2.1 38 = .ok (.iushr, 1) := by decide +kernel
theorem zd102_39 : decode zxm102.2.1 39 = .ok (.iadd, 1) := by decide +kernel
theorem zd102_40 : decode zxm102.2.1 40 = .ok (.istore_n 0, 1) := by decide +kernel
theorem zd102_41 : decode zxm102.2.1 41 = .ok (.iload_n 0, 1) := by decide +kernel
theorem zd102_42 : decode zxm102.2.1 42 = .ok (.iload_n 0, 1) := by decide +kernel
theorem zd102_43 : decode zxm102.2.1 43 = .ok (.bipush 16, 2) := by decide +kernel
theorem zd102_45 : decode zxm102.2.1 45 = .ok (.iushr, 1) := by decide +kernel
theorem zd102_46 : decode zxm102.2.1 46 = .ok (.iadd, 1) := by decide +kernel
theorem zd102_47 : decode zxm102.2.1 47 = .ok (.istore_n 0, 1) := by decide +kernel
theorem zd102_48 : decode zxm102.2.1 48 = .ok (.iload_n 0, 1) := by decide +kernel
theorem zd102_49 : decode zxm102.2.1 49 = .ok (.bipush 63, 2) := by decide +kernel
theorem zd102_51 : decode zxm102.2.1 51 = .ok (.iand, 1) := by decide +kernel
theorem zd102_52 : decode zxm102.2.1 52 = .ok (.ireturn, 1) := by decide +kernel
theorem zh102 {k : Nat} : zn_OK z_TB z_cl z_KX zy0 zxm102 (0, 0) (fun va F G => va = [.inl (zg_v k)] ∧ k < 25) (fun va F G r F' G' => F' = F ∧ G' = G ∧ ∃ v, r = some v ∧ 0 ≤ v ∧ v ≤ 32 ∧ (k < 24 → v ≤ 23)) := zn_meth (K := (z_KF15, z_KC15, z_KL15, z_KT15, [], [], [], none)) (FT := z_FT) (MT := z_MT) (n := 1) zxp102 (z_ks15 _ (fun _ h => List.mem_cons_of_mem _ h) _ _ _ _ (fun j r h _ => by cases h)) (fun _ _ => zs_KX_p) (by decide +kernel) (fun va F G h => by obtain ⟨rfl, _⟩ := h; rfl) rfl fun good va F G hB hret hvret hP => by
  obtain ⟨rfl, hk⟩ := hP
  refine zn_ild hB zd102_0 rfl rfl ?_
  refine zn_ild hB zd102_1 rfl rfl ?_
  refine zn_con hB zd102_2 rfl ?_
  refine zn_ushrv hB zd102_3 ?_
  refine zn_con (n := 1431655765) hB zd102_4 (by decide +kernel) ?_
  refine zn_binv hB zd102_7 rfl ?_
  refine zn_binv hB zd102_8 rfl ?_
  refine zn_ist hB zd102_9 rfl rfl rfl ?_
  refine zn_ild hB zd102_10 rfl rfl ?_
  refine zn_con (n := 858993459) hB zd102_11 (by decide +kernel) ?_
  refine zn_binv hB zd102_14 rfl ?_
  refine zn_ild hB zd102_15 rfl rfl ?_
  refine zn_con hB zd102_16 rfl ?_
  refine zn_ushrv hB zd102_17 ?_
  refine zn_con (n := 858993459) hB zd102_18 (by decide +kernel) ?_
  refine zn_binv hB zd102_21 rfl ?_
  refine zn_binv hB zd102_22 rfl ?_
  refine zn_ist hB zd102_23 rfl rfl rfl ?_
  refine zn_ild hB zd102_24 rfl rfl ?_
  refine zn_ild hB zd102_25 rfl rfl ?_
  refine zn_con hB zd102_26 rfl ?_
  refine zn_ushrv hB zd102_27 ?_
  refine zn_binv hB zd102_28 rfl ?_
  refine zn_con (n := 252645135) hB zd102_29 (by decide +kernel) ?_
  refine zn_binv hB zd102_32 rfl ?_
  refine zn_ist hB zd102_33 rfl rfl rfl ?_
  refine zn_ild hB zd102_34 rfl rfl ?_
  refine zn_ild hB zd102_35 rfl rfl ?_
  refine zn_con hB zd102_36 rfl ?_
  refine zn_ushrv hB zd102_38 ?_
  refine zn_binv hB zd102_39 rfl ?_
  refine zn_ist hB zd102_40 rfl rfl rfl ?_
  refine zn_ild hB zd102_41 rfl rfl ?_
  refine zn_ild hB zd102_42 rfl rfl ?_
  refine zn_con hB zd102_43 rfl ?_
  refine zn_ushrv hB zd102_45 ?_
  refine zn_binv hB zd102_46 rfl ?_
  refine zn_ist hB zd102_47 rfl rfl rfl ?_
  refine zn_ild hB zd102_48 rfl rfl ?_
  refine zn_con hB zd102_49 rfl ?_
  refine zn_binv hB zd102_51 rfl ?_
  refine hret _ _ _ _ _ zd102_52 trivial ⟨rfl, rfl, _, rfl, ?_⟩
  clear hret hvret hB
  revert k
  decide +kernel
theorem zd105_0 : decode zxm105.2.1 0 = .ok (.iload_n 0, 1) := by decide +kernel
theorem zd105_1 : decode zxm105.2.1 1 = .ok (.iload_n 0, 1) := by decide +kernel
theorem zd105_2 : decode zxm105.2.1 2 = .ok (.ineg, 1) := by decide +kernel
theorem zd105_3 : decode zxm105.2.1 3 = .ok (.iand, 1) := by decide +kernel
theorem zd105_4 : decode zxm105.2.1 4 = .ok (.iconst 1, 1) := by decide +kernel
theorem zd105_5 : decode zxm105.2.1 5 = .ok (.isub, 1) := by decide +kernel
theorem zd105_6 : decode zxm105.2.1 6 = .ok (.invokestatic 235, 3) := by decide +kernel
theorem zd105_9 : decode zxm105.2.1 9 = .ok (.ireturn, 1) := by decide +kernel
theorem zh105 {x : Int} : zn_OK z_TB z_cl z_KX zy0 zxm105 (1, 60) (fun va F G => va = [.inl x] ∧ 0 ≤ x ∧ x < 16777216) (fun va F G r F' G' => F' = F ∧ G' = G ∧ ∃ v, r = some v ∧ 0 ≤ v ∧ v ≤ 32 ∧ (1 ≤ x → v ≤ 23)) := zn_meth (K := (z_KF0, z_KC0, z_KL0, z_KT0, [], [], [], none)) (FT := z_FT) (MT := z_MT) (n := 1) zxp105 (z_ks0 _ (fun _ h => List.mem_cons_of_mem _ h) _ _ _ _ (fun j r h _ => by cases h)) (fun _ _ => zs_KX_p) (by decide +kernel) (fun va F G h => by obtain ⟨rfl, _⟩ := h; rfl) rfl fun good va F G hB hret hvret hP => by
  obtain ⟨rfl, h0, h1⟩ := hP
  refine zn_ild hB zd105_0 rfl rfl ?_
  refine zn_ild hB zd105_1 rfl rfl ?_
  refine zn_neg hB zd105_2 (fun u2 q2 => ?_)
  refine zn_bin hB zd105_3 rfl (fun a3 b3 e3 f3 => ?_)
  have e : a3 = u2 := Int32.toInt_inj.mp (e3.trans q2.symm)
  have e5 : b3 = -u2 := Int32.toInt_inj.mp f3
  obtain ⟨k, hk, hk2, hk3, hk4, hk5⟩ := zg_lowest0 (x := u2) (by omega) (by omega)
  show good _ _ [.inl (a3 &&& b3).toInt] _ _
  rw [e, e5]
  refine zn_con hB zd105_4 rfl ?_
  refine zn_isub hB zd105_5 (by omega) (by omega) ?_
  rw [hk2]
  refine zn_it1 hB (zh102 (k := k)) zd105_6 zxt102 rfl ⟨rfl, hk⟩ (fun r6 F6 G6 hq6 => ?_)
  obtain ⟨rfl, rfl, v, rfl, v1, v2, v3⟩ := hq6
  exact hret _ _ _ _ _ zd105_9 trivial ⟨rfl, rfl, _, rfl, v1, v2, fun h => v3 (hk5 (by omega))⟩
