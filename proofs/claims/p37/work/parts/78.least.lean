/-! The next set with as many bits; the least set; what is sold. -/
theorem zg_bit : ∀ {w n : Nat}, 0 < n → n < 2 ^ w → ∃ k, n.testBit k = true ∧ (2 ^ w - n).testBit k = true
  | 0, n, h1, h2 => by
    have : n < 1 := h2
    omega
  | w + 1, n, h1, h2 => by
    have e2 : 2 ^ (w + 1) = 2 * 2 ^ w := by rw [Nat.pow_succ]; omega
    rcases Nat.mod_two_eq_zero_or_one n with h | h
    · obtain ⟨k, k1, k2⟩ := zg_bit (w := w) (n := n / 2) (by omega) (by omega)
      refine ⟨k + 1, ?_, ?_⟩
      · rw [Nat.testBit_succ]; exact k1
      · rw [Nat.testBit_succ, show (2 ^ (w + 1) - n) / 2 = 2 ^ w - n / 2 by omega]; exact k2
    · refine ⟨0, ?_, ?_⟩
      · rw [Nat.testBit_zero]; exact decide_eq_true h
      · rw [Nat.testBit_zero]; exact decide_eq_true (by omega)
theorem zg_low {x : Int32} (h1 : 1 ≤ x.toInt) : 1 ≤ (x &&& -x).toInt ∧ (x &&& -x).toInt ≤ x.toInt := by
  have k := z_and_ok (a := (x.toInt, x.toInt)) (b := z_full) (x := x) (y := -x) ⟨Int.le_refl _, Int.le_refl _⟩ ⟨z_lo _, z_hi _⟩
  have hx := z_hi x
  have e : z_and (x.toInt, x.toInt) z_full = (0, x.toInt) := by
    unfold z_and z_full
    rw [if_neg (by rintro ⟨-, q, -⟩; cases q), if_pos (show (0 : Int) ≤ x.toInt by omega), if_neg (by decide)]
  rw [e] at k
  have k1 : 0 ≤ (x &&& -x).toInt := k.1
  have k2 : (x &&& -x).toInt ≤ x.toInt := k.2
  refine ⟨?_, k2⟩
  rcases Int.lt_or_le 0 (x &&& -x).toInt with q | q
  · omega
  · exfalso
    have z : (x &&& -x).toInt = 0 := by omega
    have z2 : x &&& -x = 0 := Int32.toInt_inj.mp z
    have nx : ((x.toBitVec.toNat : Nat) : Int) = x.toInt := (z_nat (x := x) (by omega)).symm
    have n1 : (x &&& -x).toBitVec.toNat = 0 := by rw [z2]; rfl
    rw [z_and_nat] at n1
    have n2 : (-x).toBitVec.toNat = 2 ^ 32 - x.toBitVec.toNat := by
      rw [Int32.toBitVec_neg, BitVec.toNat_neg]
      exact Nat.mod_eq_of_lt (by omega)
    rw [n2] at n1
    obtain ⟨j, j1, j2⟩ := zg_bit (w := 32) (n := x.toBitVec.toNat) (by omega) (by have := x.toBitVec.isLt; omega)
    have b : (x.toBitVec.toNat &&& (2 ^ 32 - x.toBitVec.toNat)).testBit j = true := by rw [Nat.testBit_and, j1, j2]; rfl
    rw [n1, Nat.zero_testBit] at b
    cases b
/-- the next set is greater -/
theorem zg_next {o q u v t : Int32} {s nx low : Int} (ho : o.toInt = nx) (hq : q.toInt = 2) (hu : u.toInt = s) (hv : v.toInt = nx) (ht : t.toInt = low) (h1 : 1 ≤ s) (h2 : s < 16777216) (h3 : 1 ≤ low) (h4 : low ≤ s) (hn : nx = s + low) :
    s + 1 ≤ (o ||| (((u ^^^ v) / t) >>> (q &&& 31))).toInt ∧ (o ||| (((u ^^^ v) / t) >>> (q &&& 31))).toInt < 67108864 := by
  have a := z_xor_ok (a := (0, 67108863)) (b := (0, 67108863)) (x := u) (y := v) ⟨by rw [hu]; show (0 : Int) ≤ s; omega, by rw [hu]; show s ≤ 67108863; omega⟩ ⟨by rw [hv]; show (0 : Int) ≤ nx; omega, by rw [hv]; show nx ≤ 67108863; omega⟩
  have ea : z_xor (0, 67108863) (0, 67108863) = (0, 67108863) := by decide +kernel
  rw [ea] at a
  have a1 : 0 ≤ (u ^^^ v).toInt := a.1
  have a2 : (u ^^^ v).toInt ≤ 67108863 := a.2
  have b : ((u ^^^ v) / t).toInt = (u ^^^ v).toInt / low := zn_div_eq rfl ht a1 (by omega)
  have b1 : 0 ≤ (u ^^^ v).toInt / low := Int.ediv_nonneg a1 (by omega)
  have b2 : (u ^^^ v).toInt / low ≤ (u ^^^ v).toInt := Int.ediv_le_self _ a1
  have c := z_shr_ok (a := (0, 67108863)) (b := (2, 2)) (x := (u ^^^ v) / t) (y := q) ⟨by rw [b]; exact b1, by rw [b]; show _ ≤ (67108863 : Int); omega⟩ ⟨by rw [hq]; exact Int.le_refl _, by rw [hq]; exact Int.le_refl _⟩
  have ec : z_shr (0, 67108863) (2, 2) = (0, 16777215) := by decide +kernel
  rw [ec] at c
  have k := z_or_ok (a := (nx, 67108863)) (b := (0, 67108863)) (x := o) (y := ((u ^^^ v) / t) >>> (q &&& 31)) ⟨by rw [ho]; exact Int.le_refl _, by rw [ho]; show nx ≤ 67108863; omega⟩ ⟨c.1, Int.le_trans c.2 (by decide)⟩
  unfold z_or at k
  rw [if_pos ⟨show (0 : Int) ≤ nx by omega, Int.le_refl _, by show (67108863 : Int) < 2147483648; omega, by show (67108863 : Int) < 2147483648; omega⟩] at k
  have k1 : z_max nx 0 ≤ (o ||| (((u ^^^ v) / t) >>> (q &&& 31))).toInt := k.1
  have k2 : (o ||| (((u ^^^ v) / t) >>> (q &&& 31))).toInt ≤ ((z_up (z_max (67108863 : Int) 67108863).toNat : Nat) : Int) - 1 := k.2
  have e : ((z_up (z_max (67108863 : Int) 67108863).toNat : Nat) : Int) - 1 = 67108863 := by decide +kernel
  rw [e] at k2
  have l : nx ≤ z_max nx 0 := by unfold z_max; split <;> omega
  omega
abbrev zyLe : zNL := (3, [(0, 12)], [(0, 12, 48, 0)], [(0, 12, 0, 1), (0, 12, 47, 2)], [(1, 0, 422, 0), (2, 0, 28, 1)])
section ZLEAST
variable {um n : Int} {now un : Int → Int} {Fr : List Int} {Gr : List (Int → Int)}
theorem zd286_0 : decode zxm286.2.1 0 = .ok (.iconst 0, 1) := by decide +kernel
theorem zd286_1 : decode zxm286.2.1 1 = .ok (.istore_n 2, 1) := by decide +kernel
theorem zd286_2 : decode zxm286.2.1 2 = .ok (.iload_n 2, 1) := by decide +kernel
theorem zd286_3 : decode zxm286.2.1 3 = .ok (.aload_n 0, 1) := by decide +kernel
theorem zd286_4 : decode zxm286.2.1 4 = .ok (.getfield 395, 3) := by decide +kernel
theorem zd286_7 : decode zxm286.2.1 7 = .ok (.if_icmp .ge 22, 3) := by decide +kernel
theorem zd286_10 : decode zxm286.2.1 10 = .ok (.aload_n 0, 1) := by decide +kernel
theorem zd286_11 : decode zxm286.2.1 11 = .ok (.getfield 101, 3) := by decide +kernel
theorem zd286_14 : decode zxm286.2.1 14 = .ok (.iload_n 2, 1) := by decide +kernel
theorem zd286_15 : decode zxm286.2.1 15 = .ok (.iaload, 1) := by decide +kernel
theorem zd286_16 : decode zxm286.2.1 16 = .ok (.iload_n 1, 1) := by decide +kernel
theorem zd286_17 : decode zxm286.2.1 17 = .ok (.iand, 1) := by decide +kernel
theorem zd286_18 : decode zxm286.2.1 18 = .ok (.ifCond .ne 5, 3) := by decide +kernel
theorem zd286_21 : decode zxm286.2.1 21 = .ok (.iconst 0, 1) := by decide +kernel
theorem zd286_22 : decode zxm286.2.1 22 = .ok (.ireturn, 1) := by decide +kernel
theorem zd286_23 : decode zxm286.2.1 23 = .ok (.iinc 2 1, 3) := by decide +kernel
theorem zd286_26 : decode zxm286.2.1 26 = .ok (.goto (-24), 3) := by decide +kernel
theorem zd286_29 : decode zxm286.2.1 29 = .ok (.iconst 1, 1) := by decide +kernel
theorem zd286_30 : decode zxm286.2.1 30 = .ok (.ireturn, 1) := by decide +kernel
theorem zh286 {s : Int} : zn_OK z_TB z_cl z_KX zyLe zxm286 (0, 0) (fun va F G => va = [.inr 0, .inl s] ∧ F = um :: Fr ∧ G = now :: un :: Gr ∧ um ≤ 28) (fun va F G r F' G' => F' = F ∧ G' = G ∧ (r = some 0 ∨ r = some 1)) := zn_meth (K := zkM) (FT := z_FT) (MT := z_MT) (n := 2) zxp286 (z_ks13 _ (fun _ h => List.mem_cons_of_mem _ h) _ _ _ _ (fun j r h _ => by cases h)) (fun _ _ => zs_KX_p) (by decide +kernel) (fun va F G h => by obtain ⟨rfl, _⟩ := h; rfl) rfl fun good va F G hB hret hvret hP => by
  obtain ⟨rfl, rfl, rfl, h0⟩ := hP
  have key : ∀ (m : Nat) (k : Int), um - k < m → 0 ≤ k → good 2 [.inr 0, .inl s, .inl k] [] (um :: Fr) (now :: un :: Gr) := by
    intro m
    induction m with
    | zero =>
      intro k c1 c2
      refine zn_ild hB zd286_2 rfl rfl ?_
      refine zn_ald hB zd286_3 rfl rfl rfl ?_
      refine zn_getf hB zd286_4 rfl rfl (fun q4 r4 => ?_)
      refine zn_cge hB zd286_7 rfl (fun h7 => ?_) (fun h7 => ?_)
      · refine zn_con hB zd286_29 rfl ?_
        refine hret _ _ _ _ _ zd286_30 (by constructor <;> decide) ⟨rfl, rfl, ?_⟩
        first | exact Or.inl rfl | exact Or.inr rfl
      · exfalso; omega
    | succ m ih =>
      intro k c1 c2
      refine zn_ild hB zd286_2 rfl rfl ?_
      refine zn_ald hB zd286_3 rfl rfl rfl ?_
      refine zn_getf hB zd286_4 rfl rfl (fun q4 r4 => ?_)
      refine zn_cge hB zd286_7 rfl (fun h7 => ?_) (fun h7 => ?_)
      · refine zn_con hB zd286_29 rfl ?_
        refine hret _ _ _ _ _ zd286_30 (by constructor <;> decide) ⟨rfl, rfl, ?_⟩
        first | exact Or.inl rfl | exact Or.inr rfl
      · refine zn_ald hB zd286_10 rfl rfl rfl ?_
        refine zn_getr hB zd286_11 rfl ?_
        refine zn_ild hB zd286_14 rfl rfl ?_
        refine zn_iald hB zd286_15 rfl rfl (by omega) (by omega) (fun q15 r15 => ?_)
        refine zn_ild hB zd286_16 rfl rfl ?_
        refine zn_any hB zd286_17 rfl (fun v17 q17 r17 => ?_)
        refine zn_zne hB zd286_18 rfl (fun h18 => ?_) (fun h18 => ?_)
        · refine zn_iinc hB zd286_23 rfl rfl (by omega) (by omega) ?_
          refine zn_goto hB zd286_26 rfl ?_
          exact ih _ (by omega) (by omega)
        · refine zn_con hB zd286_21 rfl ?_
          refine hret _ _ _ _ _ zd286_22 (by constructor <;> decide) ⟨rfl, rfl, ?_⟩
          first | exact Or.inl rfl | exact Or.inr rfl
  refine zn_con hB zd286_0 rfl ?_
  refine zn_ist hB zd286_1 rfl rfl rfl ?_
  exact key (um.toNat + 1) 0 (by omega) (by omega)
theorem zd285_0 : decode zxm285.2.1 0 = .ok (.iconst 1, 1) := by decide +kernel
theorem zd285_1 : decode zxm285.2.1 1 = .ok (.iload_n 1, 1) := by decide +kernel
theorem zd285_2 : decode zxm285.2.1 2 = .ok (.ishl, 1) := by decide +kernel
theorem zd285_3 : decode zxm285.2.1 3 = .ok (.iconst 1, 1) := by decide +kernel
theorem zd285_4 : decode zxm285.2.1 4 = .ok (.isub, 1) := by decide +kernel
theorem zd285_5 : decode zxm285.2.1 5 = .ok (.istore_n 2, 1) := by decide +kernel
theorem zd285_6 : decode zxm285.2.1 6 = .ok (.iload_n 2, 1) := by decide +kernel
theorem zd285_7 : decode zxm285.2.1 7 = .ok (.ldc_w 398, 3) := by decide +kernel
theorem zd285_10 : decode zxm285.2.1 10 = .ok (.if_icmp .ge 52, 3) := by decide +kernel
theorem zd285_13 : decode zxm285.2.1 13 = .ok (.iload_n 2, 1) := by decide +kernel
theorem zd285_14 : decode zxm285.2.1 14 = .ok (.aload_n 0, 1) := by decide +kernel
theorem zd285_15 : decode zxm285.2.1 15 = .ok (.getfield 7, 3) := by decide +kernel
theorem zd285_18 : decode zxm285.2.1 18 = .ok (.bipush 126, 2) := by decide +kernel
theorem zd285_20 : decode zxm285.2.1 20 = .ok (.iaload, 1) := by decide +kernel
theorem zd285_21 : decode zxm285.2.1 21 = .ok (.iconst (-1), 1) := by decide +kernel
theorem zd285_22 : decode zxm285.2.1 22 = .ok (.ixor, 1) := by decide +kernel
theorem zd285_23 : decode zxm285.2.1 23 = .ok (.iand, 1) := by decide +kernel
theorem zd285_24 : decode zxm285.2.1 24 = .ok (.ifCond .ne 13, 3) := by decide +kernel
theorem zd285_27 : decode zxm285.2.1 27 = .ok (.aload_n 0, 1) := by decide +kernel
theorem zd285_28 : decode zxm285.2.1 28 = .ok (.iload_n 2, 1) := by decide +kernel
theorem zd285_29 : decode zxm285.2.1 29 = .ok (.invokevirtual 399, 3) := by decide +kernel
theorem zd285_32 : decode zxm285.2.1 32 = .ok (.ifCond .eq 5, 3) := by decide +kernel
theorem zd285_35 : decode zxm285.2.1 35 = .ok (.iload_n 2, 1) := by decide +kernel
theorem zd285_36 : decode zxm285.2.1 36 = .ok (.ireturn, 1) := by decide +kernel
theorem zd285_37 : decode zxm285.2.1 37 = .ok (.iload_n 2, 1) := by decide +kernel
theorem zd285_38 : decode zxm285.2.1 38 = .ok (.iload_n 2, 1) := by decide +kernel
theorem zd285_39 : decode zxm285.2.1 39 = .ok (.ineg, 1) := by decide +kernel
theorem zd285_40 : decode zxm285.2.1 40 = .ok (.iand, 1) := by decide +kernel
theorem zd285_41 : decode zxm285.2.1 41 = .ok (.istore_n 3, 1) := by decide +kernel
theorem zd285_42 : decode zxm285.2.1 42 = .ok (.iload_n 2, 1) := by decide +kernel
theorem zd285_43 : decode zxm285.2.1 43 = .ok (.iload_n 3, 1) := by decide +kernel
theorem zd285_44 : decode zxm285.2.1 44 = .ok (.iadd, 1) := by decide +kernel
theorem zd285_45 : decode zxm285.2.1 45 = .ok (.istore 4, 2) := by decide +kernel
theorem zd285_47 : decode zxm285.2.1 47 = .ok (.iload 4, 2) := by decide +kernel
theorem zd285_49 : decode zxm285.2.1 49 = .ok (.iload_n 2, 1) := by decide +kernel
theorem zd285_50 : decode zxm285.2.1 50 = .ok (.iload 4, 2) := by decide +kernel
theorem zd285_52 : decode zxm285.2.1 52 = .ok (.ixor, 1) := by decide +kernel
theorem zd285_53 : decode zxm285.2.1 53 = .ok (.iload_n 3, 1) := by decide +kernel
theorem zd285_54 : decode zxm285.2.1 54 = .ok (.idiv, 1) := by decide +kernel
theorem zd285_55 : decode zxm285.2.1 55 = .ok (.iconst 2, 1) := by decide +kernel
theorem zd285_56 : decode zxm285.2.1 56 = .ok (.ishr, 1) := by decide +kernel
theorem zd285_57 : decode zxm285.2.1 57 = .ok (.ior, 1) := by decide +kernel
theorem zd285_58 : decode zxm285.2.1 58 = .ok (.istore_n 2, 1) := by decide +kernel
theorem zd285_59 : decode zxm285.2.1 59 = .ok (.goto (-53), 3) := by decide +kernel
theorem zd285_62 : decode zxm285.2.1 62 = .ok (.iconst (-1), 1) := by decide +kernel
theorem zd285_63 : decode zxm285.2.1 63 = .ok (.ireturn, 1) := by decide +kernel
theorem zh285  : zn_OK z_TB z_cl z_KX zyLe zxm285 (1, 60) (fun va F G => va = [.inr 0, .inl n] ∧ F = um :: Fr ∧ G = now :: un :: Gr ∧ 1 ≤ n ∧ n ≤ 8 ∧ um ≤ 28) (fun va F G r F' G' => F' = F ∧ G' = G ∧ ∃ v, r = some v ∧ -1 ≤ v ∧ v < 16777216) := zn_meth (K := zkM) (FT := z_FT) (MT := z_MT) (n := 2) zxp285 (z_ks13 _ (fun _ h => List.mem_cons_of_mem _ h) _ _ _ _ (fun j r h _ => by cases h)) (fun _ _ => zs_KX_p) (by decide +kernel) (fun va F G h => by obtain ⟨rfl, _⟩ := h; rfl) rfl fun good va F G hB hret hvret hP => by
  obtain ⟨rfl, rfl, rfl, h0, h1, hu2⟩ := hP
  have key : ∀ (m : Nat) (s : Int) (x3 x4 : zNV), 67108864 - s < m → 1 ≤ s → s < 67108864 → good 6 [.inr 0, .inl n, .inl s, x3, x4] [] (um :: Fr) (now :: un :: Gr) := by
    intro m
    induction m with
    | zero =>
      intro s x3 x4 c1 c2 c3
      exfalso; omega
    | succ m ih =>
      intro s x3 x4 c1 c2 c3
      have gos : s < 16777216 → good 37 [.inr 0, .inl n, .inl s, x3, x4] [] (um :: Fr) (now :: un :: Gr) := by
        intro c4
        refine zn_ild hB zd285_37 rfl rfl ?_
        refine zn_ild hB zd285_38 rfl rfl ?_
        refine zn_neg hB zd285_39 (fun u39 q39 => ?_)
        refine zn_bin hB zd285_40 rfl (fun a40 b40 e40 f40 => ?_)
        have hlow : 1 ≤ (a40 &&& b40).toInt ∧ (a40 &&& b40).toInt ≤ s := by
          have : b40 = -u39 := Int32.toInt_inj.mp f40
          have e : a40 = u39 := Int32.toInt_inj.mp (e40.trans q39.symm)
          rw [this, e]
          have := zg_low (x := u39) (by omega)
          omega
        show good _ _ [.inl (a40 &&& b40).toInt] _ _
        obtain ⟨hl1, hl2⟩ := hlow
        generalize (a40 &&& b40).toInt = low at hl1 hl2 ⊢
        refine zn_ist hB zd285_41 rfl rfl rfl ?_
        refine zn_ild hB zd285_42 rfl rfl ?_
        refine zn_ild hB zd285_43 rfl rfl ?_
        refine zn_iadd hB zd285_44 (by omega) (by omega) ?_
        refine zn_ist hB zd285_45 rfl rfl rfl ?_
        refine zn_ild hB zd285_47 rfl rfl ?_
        refine zn_ild hB zd285_49 rfl rfl ?_
        refine zn_ild hB zd285_50 rfl rfl ?_
        refine zn_bin hB zd285_52 rfl (fun u52 v52 q52 r52 => ?_)
        refine zn_ild hB zd285_53 rfl rfl ?_
        refine zn_bin0 hB zd285_54 rfl (by omega) (fun u54 v54 q54 r54 => ?_)
        refine zn_con hB zd285_55 rfl ?_
        refine zn_bin hB zd285_56 rfl (fun u56 v56 q56 r56 => ?_)
        refine zn_bin hB zd285_57 rfl (fun u57 v57 q57 r57 => ?_)
        have hg := zg_next (o := u57) (q := v56) (u := u52) (v := v52) (t := v54) q57 r56 q52 r52 r54 c2 c4 hl1 hl2 rfl
        have eo : (u57 ||| v57).toInt = (u57 ||| (((u52 ^^^ v52) / v54) >>> (v56 &&& 31))).toInt := by
          have e1 : v57 = u56 >>> (v56 &&& 31) := Int32.toInt_inj.mp r57
          have e2 : u56 = u54 / v54 := Int32.toInt_inj.mp q56
          have e3 : u54 = u52 ^^^ v52 := Int32.toInt_inj.mp q54
          rw [e1, e2, e3]
        refine zn_ist hB zd285_58 rfl rfl rfl ?_
        refine zn_goto hB zd285_59 rfl ?_
        refine ih _ _ _ ?_ ?_ ?_
        · show _ - (u57 ||| v57).toInt < _
          rw [eo]; omega
        · show _ ≤ (u57 ||| v57).toInt
          rw [eo]; omega
        · show (u57 ||| v57).toInt < _
          rw [eo]; exact hg.2
      refine zn_ild hB zd285_6 rfl rfl ?_
      refine zn_con (n := 16777216) hB zd285_7 (by decide +kernel) ?_
      refine zn_cge hB zd285_10 rfl (fun h10 => ?_) (fun h10 => ?_)
      · refine zn_con hB zd285_62 rfl ?_
        exact hret _ _ _ _ _ zd285_63 trivial ⟨rfl, rfl, _, rfl, by omega, by omega⟩
      · refine zn_ild hB zd285_13 rfl rfl ?_
        refine zn_ald hB zd285_14 rfl rfl rfl ?_
        refine zn_getr hB zd285_15 rfl ?_
        refine zn_con hB zd285_18 rfl ?_
        refine zn_iald hB zd285_20 rfl rfl (by omega) (by omega) (fun q20 r20 => ?_)
        refine zn_con hB zd285_21 rfl ?_
        refine zn_any hB zd285_22 rfl (fun v22 q22 r22 => ?_)
        refine zn_any hB zd285_23 rfl (fun v23 q23 r23 => ?_)
        refine zn_zne hB zd285_24 rfl (fun h24 => ?_) (fun h24 => ?_)
        · exact gos (by omega)
        · refine zn_ald hB zd285_27 rfl rfl rfl ?_
          refine zn_ild hB zd285_28 rfl rfl ?_
          refine zn_iv1 hB (zh286 (um := um)) zd285_29 zxt286 rfl ⟨rfl, rfl, rfl, hu2⟩ (fun r29 F29 G29 hq29 => ?_)
          obtain ⟨rfl, rfl, hx29⟩ := hq29
          rcases hx29 with rfl | rfl
          · refine zn_zeq hB zd285_32 rfl (fun h32 => ?_) (fun h32 => ?_)
            · exact gos (by omega)
            · exfalso; omega
          · refine zn_zeq hB zd285_32 rfl (fun h32 => ?_) (fun h32 => ?_)
            · exfalso; omega
            · refine zn_ild hB zd285_35 rfl rfl ?_
              exact hret _ _ _ _ _ zd285_36 trivial ⟨rfl, rfl, _, rfl, by omega, by omega⟩
  refine zn_con hB zd285_0 rfl ?_
  refine zn_ild hB zd285_1 rfl rfl ?_
  refine zn_bin hB zd285_2 rfl (fun u2 v2 q2 r2 => ?_)
  have hz := z_shl_ok (a := (1, 1)) (b := (1, 8)) (x := u2) (y := v2) ⟨by rw [q2]; decide, by rw [q2]; decide⟩ ⟨by rw [r2]; exact h0, by rw [r2]; exact h1⟩
  have ez : z_shl (1, 1) (1, 8) = (2, 256) := by decide +kernel
  rw [ez] at hz
  have hz1 : 2 ≤ (u2 <<< (v2 &&& 31)).toInt := hz.1
  have hz2 : (u2 <<< (v2 &&& 31)).toInt ≤ 256 := hz.2
  show good _ _ [.inl (u2 <<< (v2 &&& 31)).toInt] _ _
  generalize (u2 <<< (v2 &&& 31)).toInt = z at hz1 hz2 ⊢
  refine zn_con hB zd285_3 rfl ?_
  refine zn_isub hB zd285_4 (by omega) (by omega) ?_
  refine zn_ist hB zd285_5 rfl rfl rfl ?_
  exact key 67108865 _ _ _ (by omega) (by omega) (by omega)
end ZLEAST
