/-! Methods as functions, and that they do what these do. -/
/-! Patches_hasAll_24_24 ([II[II)Z -/
-- names: 0 (0, 24)('arg', 0), 1 (0, 24)('arg', 2)
-- fields: ; arrays: g0 = 0, g1 = 1; out: [('ret', None)]
abbrev zy_Patches_hasAll_24_24 : zNL := (2, [], [], [], [(0, 0, 24, 0), (1, 0, 24, 1)])
theorem zyw_Patches_hasAll_24_24 : zv_wf zy_Patches_hasAll_24_24 = true := by decide +kernel
theorem zye_Patches_hasAll_24_24 : zv_ek2 zy_Patches_hasAll_24_24 = true := by decide +kernel
def zf_Patches_hasAll_24_24_l1_b (x1 : Int) (x4 : Int) (g0 : (Int → Int)) (g1 : (Int → Int)) (rec : Int → Int → Option (Int)) (x5 : Int) (x6 : Int) : Option (Int) := if x6 < x1 then (if x5 = 0 then (cond (zi_ix x6 24) (cond (zi_ix x4 24) (if (g0 x6) = (g1 x4) then (rec 1 (zi_w (x6 + 1))) else (rec 0 (zi_w (x6 + 1)))) none) none) else (some x5)) else (some x5)
def zf_Patches_hasAll_24_24_l1 (x1 : Int) (x4 : Int) (g0 : (Int → Int)) (g1 : (Int → Int)) : Nat → Int → Int → Option (Int)
  | 0, _, _ => none
  | n + 1, x5, x6 => zf_Patches_hasAll_24_24_l1_b x1 x4 g0 g1 (zf_Patches_hasAll_24_24_l1 x1 x4 g0 g1 n) x5 x6
def zf_Patches_hasAll_24_24_l0_b (x1 : Int) (x3 : Int) (g0 : (Int → Int)) (g1 : (Int → Int)) (rec : Int → Option (((Unit) ⊕ (Int)))) (x4 : Int) : Option (((Unit) ⊕ (Int))) := if x4 < x3 then ((zf_Patches_hasAll_24_24_l1 x1 x4 g0 g1 zi_fu 0 0).bind fun q7 => (if q7 = 0 then (some (.inr 0)) else (rec (zi_w (x4 + 1))))) else (some (.inl ()))
def zf_Patches_hasAll_24_24_l0 (x1 : Int) (x3 : Int) (g0 : (Int → Int)) (g1 : (Int → Int)) : Nat → Int → Option (((Unit) ⊕ (Int)))
  | 0, _ => none
  | n + 1, x4 => zf_Patches_hasAll_24_24_l0_b x1 x3 g0 g1 (zf_Patches_hasAll_24_24_l0 x1 x3 g0 g1 n) x4
def zf_Patches_hasAll_24_24 (x1 : Int) (x3 : Int) (g0 : (Int → Int)) (g1 : (Int → Int)) : Option (Int) := (zf_Patches_hasAll_24_24_l0 x1 x3 g0 g1 zi_fu 0).bind fun q9 => Sum.elim (fun e10 => (some 1)) (fun w11 => some w11) q9
theorem zd134_0 : decode zxm134.2.1 0 = .ok (.iconst 0, 1) := by decide +kernel
theorem zd134_1 : decode zxm134.2.1 1 = .ok (.istore 4, 2) := by decide +kernel
theorem zd134_3 : decode zxm134.2.1 3 = .ok (.iload 4, 2) := by decide +kernel
theorem zd134_5 : decode zxm134.2.1 5 = .ok (.iload_n 3, 1) := by decide +kernel
theorem zd134_6 : decode zxm134.2.1 6 = .ok (.if_icmp .ge 57, 3) := by decide +kernel
theorem zd134_9 : decode zxm134.2.1 9 = .ok (.iconst 0, 1) := by decide +kernel
theorem zd134_10 : decode zxm134.2.1 10 = .ok (.istore 5, 2) := by decide +kernel
theorem zd134_12 : decode zxm134.2.1 12 = .ok (.iconst 0, 1) := by decide +kernel
theorem zd134_13 : decode zxm134.2.1 13 = .ok (.istore 6, 2) := by decide +kernel
theorem zd134_15 : decode zxm134.2.1 15 = .ok (.iload 6, 2) := by decide +kernel
theorem zd134_17 : decode zxm134.2.1 17 = .ok (.iload_n 1, 1) := by decide +kernel
theorem zd134_18 : decode zxm134.2.1 18 = .ok (.if_icmp .ge 32, 3) := by decide +kernel
theorem zd134_21 : decode zxm134.2.1 21 = .ok (.iload 5, 2) := by decide +kernel
theorem zd134_23 : decode zxm134.2.1 23 = .ok (.ifCond .ne 27, 3) := by decide +kernel
theorem zd134_26 : decode zxm134.2.1 26 = .ok (.aload_n 0, 1) := by decide +kernel
theorem zd134_27 : decode zxm134.2.1 27 = .ok (.iload 6, 2) := by decide +kernel
theorem zd134_29 : decode zxm134.2.1 29 = .ok (.iaload, 1) := by decide +kernel
theorem zd134_30 : decode zxm134.2.1 30 = .ok (.aload_n 2, 1) := by decide +kernel
theorem zd134_31 : decode zxm134.2.1 31 = .ok (.iload 4, 2) := by decide +kernel
theorem zd134_33 : decode zxm134.2.1 33 = .ok (.iaload, 1) := by decide +kernel
theorem zd134_34 : decode zxm134.2.1 34 = .ok (.if_icmp .ne 7, 3) := by decide +kernel
theorem zd134_37 : decode zxm134.2.1 37 = .ok (.iconst 1, 1) := by decide +kernel
theorem zd134_38 : decode zxm134.2.1 38 = .ok (.goto 4, 3) := by decide +kernel
theorem zd134_41 : decode zxm134.2.1 41 = .ok (.iconst 0, 1) := by decide +kernel
theorem zd134_42 : decode zxm134.2.1 42 = .ok (.istore 5, 2) := by decide +kernel
theorem zd134_44 : decode zxm134.2.1 44 = .ok (.iinc 6 1, 3) := by decide +kernel
theorem zd134_47 : decode zxm134.2.1 47 = .ok (.goto (-32), 3) := by decide +kernel
theorem zd134_50 : decode zxm134.2.1 50 = .ok (.iload 5, 2) := by decide +kernel
theorem zd134_52 : decode zxm134.2.1 52 = .ok (.ifCond .ne 5, 3) := by decide +kernel
theorem zd134_55 : decode zxm134.2.1 55 = .ok (.iconst 0, 1) := by decide +kernel
theorem zd134_56 : decode zxm134.2.1 56 = .ok (.ireturn, 1) := by decide +kernel
theorem zd134_57 : decode zxm134.2.1 57 = .ok (.iinc 4 1, 3) := by decide +kernel
theorem zd134_60 : decode zxm134.2.1 60 = .ok (.goto (-57), 3) := by decide +kernel
theorem zd134_63 : decode zxm134.2.1 63 = .ok (.iconst 1, 1) := by decide +kernel
theorem zd134_64 : decode zxm134.2.1 64 = .ok (.ireturn, 1) := by decide +kernel
theorem zt_Patches_hasAll_24_24 {x1 : Int} {x3 : Int} {g0 : (Int → Int)} {g1 : (Int → Int)} {o : Int} (h : zf_Patches_hasAll_24_24 x1 x3 g0 g1 = some o) : zv_Fn z_TB z_cl z_KX zy_Patches_hasAll_24_24 zxm134 (0, 0) [.inr 0, .inl x1, .inr 1, .inl x3] [] [g0, g1] (some o) [] [g0, g1] := zv_meth (K := (z_KF5, z_KC5, z_KL5, z_KT5, [], [], [], none)) (FT := z_FT) (MT := z_MT) (n := 4) zxp134 (z_ks5 _ (fun _ h => List.mem_cons_of_mem _ h) _ _ _ _ (fun j r h _ => by cases h)) (fun _ _ => zs_KX_p) zyw_Patches_hasAll_24_24 (fun va F G h => by obtain ⟨rfl, _⟩ := h; rfl) rfl fun good va F G hB hret hvret hP => by
  obtain ⟨rfl, rfl, rfl⟩ := hP
  have l1 : ∀ (n : Nat) (x1 : Int) (x3 : Int) (x4 : Int) (x5 : Int) (x6 : Int) (q : Int), zf_Patches_hasAll_24_24_l1 x1 x4 g0 g1 n x5 x6 = some q → (good 50 [.inr 0, .inl x1, .inr 1, .inl x3, .inl x4, .inl q, .inr 1000] [] [] [g0, g1]) → good 15 [.inr 0, .inl x1, .inr 1, .inl x3, .inl x4, .inl x5, .inl x6] [] [] [g0, g1] := by
    intro n
    induction n with
    | zero => intro x1 x3 x4 x5 x6 q h; exact absurd (show none = some q from h) (fun h => by cases h)
    | succ n ih =>
      intro x1 x3 x4 x5 x6 q h hK
      replace h : zf_Patches_hasAll_24_24_l1_b x1 x4 g0 g1 (zf_Patches_hasAll_24_24_l1 x1 x4 g0 g1 n) x5 x6 = some q := h
      unfold zf_Patches_hasAll_24_24_l1_b at h
      refine zv_ild hB zd134_15 rfl rfl ?_
      refine zv_ild hB zd134_17 rfl rfl ?_
      refine zv_cge hB zd134_18 rfl (fun hc2 => ?_) (fun hc2 => ?_)
      · rw [if_neg (Int.not_lt.mpr hc2)] at h
        have hq := Option.some.inj h
        subst hq
        refine zv_wk hB (L' := [.inr 0, .inl x1, .inr 1, .inl x3, .inl x4, .inl x5, .inr 1000]) (F' := []) ⟨fun _ => rfl, fun _ => rfl, fun _ => rfl, fun _ => rfl, fun _ => rfl, fun _ => rfl, fun h => (Nat.lt_irrefl 1000 h).elim, trivial⟩ trivial ?_
        exact hK
      · rw [if_pos hc2] at h
        refine zv_ild hB zd134_21 rfl rfl ?_
        refine zv_zne hB zd134_23 rfl (fun hc3 => ?_) (fun hc3 => ?_)
        · rw [if_neg hc3] at h
          have hq := Option.some.inj h
          subst hq
          refine zv_wk hB (L' := [.inr 0, .inl x1, .inr 1, .inl x3, .inl x4, .inl x5, .inr 1000]) (F' := []) ⟨fun _ => rfl, fun _ => rfl, fun _ => rfl, fun _ => rfl, fun _ => rfl, fun _ => rfl, fun h => (Nat.lt_irrefl 1000 h).elim, trivial⟩ trivial ?_
          exact hK
        · rw [if_pos hc3] at h
          refine zv_ald hB zd134_26 rfl rfl rfl ?_
          refine zv_ild hB zd134_27 rfl rfl ?_
          obtain ⟨c4, h⟩ := zi_if h
          refine zv_iald hB zd134_29 rfl rfl (zi_ix_ok c4).1 (zi_ix_ok c4).2 (fun _ _ => ?_)
          refine zv_ald hB zd134_30 rfl rfl rfl ?_
          refine zv_ild hB zd134_31 rfl rfl ?_
          obtain ⟨c5, h⟩ := zi_if h
          refine zv_iald hB zd134_33 rfl rfl (zi_ix_ok c5).1 (zi_ix_ok c5).2 (fun _ _ => ?_)
          refine zv_cne hB zd134_34 rfl (fun hc6 => ?_) (fun hc6 => ?_)
          · rw [if_neg hc6] at h
            refine zv_con hB zd134_41 rfl ?_
            refine zv_ist hB zd134_42 rfl rfl rfl ?_
            refine zv_iincw hB zd134_44 rfl rfl ?_
            refine zv_goto hB zd134_47 rfl ?_
            exact ih _ _ _ _ _ q h hK
          · rw [if_pos hc6] at h
            refine zv_con hB zd134_37 rfl ?_
            refine zv_goto hB zd134_38 rfl ?_
            refine zv_ist hB zd134_42 rfl rfl rfl ?_
            refine zv_iincw hB zd134_44 rfl rfl ?_
            refine zv_goto hB zd134_47 rfl ?_
            exact ih _ _ _ _ _ q h hK
  have l0 : ∀ (n : Nat) (x1 : Int) (x3 : Int) (x4 : Int) (q : ((Unit) ⊕ (Int))), zf_Patches_hasAll_24_24_l0 x1 x3 g0 g1 n x4 = some q → (Sum.elim (fun e : Unit => good 63 [.inr 1000, .inr 1000, .inr 1000, .inr 1000, .inr 1000, .inr 1000, .inr 1000] [] [] [g0, g1]) (fun w : Int => w = o) q) → good 3 [.inr 0, .inl x1, .inr 1, .inl x3, .inl x4, .inr 1000, .inr 1000] [] [] [g0, g1] := by
    intro n
    induction n with
    | zero => intro x1 x3 x4 q h; exact absurd (show none = some q from h) (fun h => by cases h)
    | succ n ih =>
      intro x1 x3 x4 q h hK
      replace h : zf_Patches_hasAll_24_24_l0_b x1 x3 g0 g1 (zf_Patches_hasAll_24_24_l0 x1 x3 g0 g1 n) x4 = some q := h
      unfold zf_Patches_hasAll_24_24_l0_b at h
      refine zv_ild hB zd134_3 rfl rfl ?_
      refine zv_ild hB zd134_5 rfl rfl ?_
      refine zv_cge hB zd134_6 rfl (fun hc1 => ?_) (fun hc1 => ?_)
      · rw [if_neg (Int.not_lt.mpr hc1)] at h
        have hq := Option.some.inj h
        subst hq
        refine zv_wk hB (L' := [.inr 1000, .inr 1000, .inr 1000, .inr 1000, .inr 1000, .inr 1000, .inr 1000]) (F' := []) ⟨fun h => (Nat.lt_irrefl 1000 h).elim, fun h => (Nat.lt_irrefl 1000 h).elim, fun h => (Nat.lt_irrefl 1000 h).elim, fun h => (Nat.lt_irrefl 1000 h).elim, fun h => (Nat.lt_irrefl 1000 h).elim, fun h => (Nat.lt_irrefl 1000 h).elim, fun h => (Nat.lt_irrefl 1000 h).elim, trivial⟩ trivial ?_
        exact hK
      · rw [if_pos hc1] at h
        refine zv_con hB zd134_9 rfl ?_
        refine zv_ist hB zd134_10 rfl rfl rfl ?_
        refine zv_con hB zd134_12 rfl ?_
        refine zv_ist hB zd134_13 rfl rfl rfl ?_
        obtain ⟨q7, hq7, h⟩ := zi_bind h
        refine l1 _ _ _ _ _ _ q7 hq7 ?_
        show good 50 [.inr 0, .inl x1, .inr 1, .inl x3, .inl x4, .inl q7, .inr 1000] [] [] [g0, g1]
        refine zv_ild hB zd134_50 rfl rfl ?_
        refine zv_zne hB zd134_52 rfl (fun hc8 => ?_) (fun hc8 => ?_)
        · rw [if_neg hc8] at h
          refine zv_iincw hB zd134_57 rfl rfl ?_
          refine zv_goto hB zd134_60 rfl ?_
          refine zv_wk hB (L' := [.inr 0, .inl x1, .inr 1, .inl x3, .inl (zi_w (x4 + 1)), .inr 1000, .inr 1000]) (F' := []) ⟨fun _ => rfl, fun _ => rfl, fun _ => rfl, fun _ => rfl, fun _ => rfl, fun h => (Nat.lt_irrefl 1000 h).elim, fun h => (Nat.lt_irrefl 1000 h).elim, trivial⟩ trivial ?_
          exact ih _ _ _ q h hK
        · rw [if_pos hc8] at h
          refine zv_con hB zd134_55 rfl ?_
          have hw : 0 = o := zi_rk (Option.some.inj h) hK
          subst hw
          exact hret _ _ _ _ _ zd134_56 (by constructor <;> decide) ⟨rfl, rfl, rfl⟩
  unfold zf_Patches_hasAll_24_24 at h
  refine zv_con hB zd134_0 rfl ?_
  refine zv_ist hB zd134_1 rfl rfl rfl ?_
  obtain ⟨q9, hq9, h⟩ := zi_bind h
  refine l0 _ _ _ _ q9 hq9 ?_
  rcases q9 with e10 | w11
  · replace h := zi_sl h
    show good 63 [.inr 1000, .inr 1000, .inr 1000, .inr 1000, .inr 1000, .inr 1000, .inr 1000] [] [] [g0, g1]
    refine zv_con hB zd134_63 rfl ?_
    have hw := Option.some.inj h
    subst hw
    exact hret _ _ _ _ _ zd134_64 (by constructor <;> decide) ⟨rfl, rfl, rfl⟩
  · exact Option.some.inj h
/-! Patches_isSame (II)Z -/
-- names: 0 Patches('arg', 0), 1 (0, 288)(0, 10, 0), 2 (0, 24)(0, 10, 4), 3 Sky(0, 10, 6), 4 (0, 24)(3, 1, 1), 5 (0, 24)(3, 1, 2), 6 (0, 24)(3, 1, 3), 7 (0, 24)(0, 10, 5)
-- fields: f0 = 3.hour_; arrays: g0 = 1, g1 = 2, g2 = 4, g3 = 5, g4 = 6, g5 = 7; out: [('ret', None), ('g', 1), ('g', 5)]
abbrev zy_Patches_isSame : zNL := (8, [(0, 10), (3, 1)], [(3, 1, 6, 0)], [(0, 10, 0, 1), (0, 10, 4, 2), (0, 10, 6, 3), (3, 1, 1, 4), (3, 1, 2, 5), (3, 1, 3, 6), (0, 10, 5, 7)], [(1, 0, 288, 0), (2, 0, 24, 1), (4, 0, 24, 2), (5, 0, 24, 3), (6, 0, 24, 4), (7, 0, 24, 5)])
theorem zyw_Patches_isSame : zv_wf zy_Patches_isSame = true := by decide +kernel
theorem zye_Patches_isSame : zv_ek2 zy_Patches_isSame = true := by decide +kernel
def zf_Patches_isSame (x1 : Int) (x2 : Int) (f0 : Int) (g0 : (Int → Int)) (g1 : (Int → Int)) (g2 : (Int → Int)) (g3 : (Int → Int)) (g4 : (Int → Int)) (g5 : (Int → Int)) : Option (Int × (Int → Int) × (Int → Int)) := cond (zi_ix x1 288) ((zf_Patches_fillParts_24 (g0 x1) x1 f0 g1 g2 g3 g4).bind fun r2 => (cond (zi_ix x2 288) ((zf_Patches_fillParts_24 (g0 x2) x2 f0 g5 g2 g3 g4).bind fun r4 => ((zf_Patches_hasAll_24_24 r2.1 r4.1 r2.2 r4.2).bind fun r5 => (if r5 = 0 then (some (0, r2.2, r4.2)) else ((zf_Patches_hasAll_24_24 r4.1 r2.1 r4.2 r2.2).bind fun r7 => (if r7 = 0 then (some (0, r2.2, r4.2)) else (some (1, r2.2, r4.2))))))) none)) none
theorem zd133_0 : decode zxm133.2.1 0 = .ok (.aload_n 0, 1) := by decide +kernel
theorem zd133_1 : decode zxm133.2.1 1 = .ok (.aload_n 0, 1) := by decide +kernel
theorem zd133_2 : decode zxm133.2.1 2 = .ok (.getfield 9, 3) := by decide +kernel
theorem zd133_5 : decode zxm133.2.1 5 = .ok (.iload_n 1, 1) := by decide +kernel
theorem zd133_6 : decode zxm133.2.1 6 = .ok (.iaload, 1) := by decide +kernel
theorem zd133_7 : decode zxm133.2.1 7 = .ok (.iload_n 1, 1) := by decide +kernel
theorem zd133_8 : decode zxm133.2.1 8 = .ok (.aload_n 0, 1) := by decide +kernel
theorem zd133_9 : decode zxm133.2.1 9 = .ok (.getfield 26, 3) := by decide +kernel
theorem zd133_12 : decode zxm133.2.1 12 = .ok (.invokevirtual 52, 3) := by decide +kernel
theorem zd133_15 : decode zxm133.2.1 15 = .ok (.istore_n 3, 1) := by decide +kernel
theorem zd133_16 : decode zxm133.2.1 16 = .ok (.aload_n 0, 1) := by decide +kernel
theorem zd133_17 : decode zxm133.2.1 17 = .ok (.aload_n 0, 1) := by decide +kernel
theorem zd133_18 : decode zxm133.2.1 18 = .ok (.getfield 9, 3) := by decide +kernel
theorem zd133_21 : decode zxm133.2.1 21 = .ok (.iload_n 2, 1) := by decide +kernel
theorem zd133_22 : decode zxm133.2.1 22 = .ok (.iaload, 1) := by decide +kernel
theorem zd133_23 : decode zxm133.2.1 23 = .ok (.iload_n 2, 1) := by decide +kernel
theorem zd133_24 : decode zxm133.2.1 24 = .ok (.aload_n 0, 1) := by decide +kernel
theorem zd133_25 : decode zxm133.2.1 25 = .ok (.getfield 29, 3) := by decide +kernel
theorem zd133_28 : decode zxm133.2.1 28 = .ok (.invokevirtual 52, 3) := by decide +kernel
theorem zd133_31 : decode zxm133.2.1 31 = .ok (.istore 4, 2) := by decide +kernel
theorem zd133_33 : decode zxm133.2.1 33 = .ok (.aload_n 0, 1) := by decide +kernel
theorem zd133_34 : decode zxm133.2.1 34 = .ok (.getfield 26, 3) := by decide +kernel
theorem zd133_37 : decode zxm133.2.1 37 = .ok (.iload_n 3, 1) := by decide +kernel
theorem zd133_38 : decode zxm133.2.1 38 = .ok (.aload_n 0, 1) := by decide +kernel
theorem zd133_39 : decode zxm133.2.1 39 = .ok (.getfield 29, 3) := by decide +kernel
theorem zd133_42 : decode zxm133.2.1 42 = .ok (.iload 4, 2) := by decide +kernel
theorem zd133_44 : decode zxm133.2.1 44 = .ok (.invokestatic 85, 3) := by decide +kernel
theorem zd133_47 : decode zxm133.2.1 47 = .ok (.ifCond .eq 24, 3) := by decide +kernel
theorem zd133_50 : decode zxm133.2.1 50 = .ok (.aload_n 0, 1) := by decide +kernel
theorem zd133_51 : decode zxm133.2.1 51 = .ok (.getfield 29, 3) := by decide +kernel
theorem zd133_54 : decode zxm133.2.1 54 = .ok (.iload 4, 2) := by decide +kernel
theorem zd133_56 : decode zxm133.2.1 56 = .ok (.aload_n 0, 1) := by decide +kernel
theorem zd133_57 : decode zxm133.2.1 57 = .ok (.getfield 26, 3) := by decide +kernel
theorem zd133_60 : decode zxm133.2.1 60 = .ok (.iload_n 3, 1) := by decide +kernel
theorem zd133_61 : decode zxm133.2.1 61 = .ok (.invokestatic 85, 3) := by decide +kernel
theorem zd133_64 : decode zxm133.2.1 64 = .ok (.ifCond .eq 7, 3) := by decide +kernel
theorem zd133_67 : decode zxm133.2.1 67 = .ok (.iconst 1, 1) := by decide +kernel
theorem zd133_68 : decode zxm133.2.1 68 = .ok (.goto 4, 3) := by decide +kernel
theorem zd133_71 : decode zxm133.2.1 71 = .ok (.iconst 0, 1) := by decide +kernel
theorem zd133_72 : decode zxm133.2.1 72 = .ok (.ireturn, 1) := by decide +kernel
theorem zt_Patches_isSame {x1 : Int} {x2 : Int} {f0 : Int} {g0 : (Int → Int)} {g1 : (Int → Int)} {g2 : (Int → Int)} {g3 : (Int → Int)} {g4 : (Int → Int)} {g5 : (Int → Int)} {o : Int × (Int → Int) × (Int → Int)} (h : zf_Patches_isSame x1 x2 f0 g0 g1 g2 g3 g4 g5 = some o) : zv_Fn z_TB z_cl z_KX zy_Patches_isSame zxm133 (2, 120) [.inr 0, .inl x1, .inl x2] [.inl f0] [g0, g1, g2, g3, g4, g5] (some o.1) [.inl f0] [g0, o.2.1, g2, g3, g4, o.2.2] := zv_meth (K := (z_KF5, z_KC5, z_KL5, z_KT5, [], [], [], none)) (FT := z_FT) (MT := z_MT) (n := 3) zxp133 (z_ks5 _ (fun _ h => List.mem_cons_of_mem _ h) _ _ _ _ (fun j r h _ => by cases h)) (fun _ _ => zs_KX_p) zyw_Patches_isSame (fun va F G h => by obtain ⟨rfl, _⟩ := h; rfl) rfl fun good va F G hB hret hvret hP => by
  obtain ⟨rfl, rfl, rfl⟩ := hP
  unfold zf_Patches_isSame at h
  refine zv_ald hB zd133_0 rfl rfl rfl ?_
  refine zv_ald hB zd133_1 rfl rfl rfl ?_
  refine zv_getr hB zd133_2 rfl ?_
  refine zv_ild hB zd133_5 rfl rfl ?_
  obtain ⟨c1, h⟩ := zi_if h
  refine zv_iald hB zd133_6 rfl rfl (zi_ix_ok c1).1 (zi_ix_ok c1).2 (fun _ _ => ?_)
  refine zv_ild hB zd133_7 rfl rfl ?_
  refine zv_ald hB zd133_8 rfl rfl rfl ?_
  refine zv_getr hB zd133_9 rfl ?_
  obtain ⟨r2, hr2, h⟩ := zi_bind h
  refine zv_cv hB (show zv_Fn _ _ _ zy_Patches_isSame _ _ [.inr 0, .inl (g0 x1), .inl x1, .inr 2] [.inl f0] [g0, g1, g2, g3, g4, g5] (some r2.1) [.inl f0] [g0, r2.2, g2, g3, g4, g5] from zv_emb (F := [.inl f0]) (G := [g0, g1, g2, g3, g4, g5]) zyw_Patches_fillParts_24 zyw_Patches_isSame zye_Patches_isSame (by decide +kernel : zv_ek zy_Patches_fillParts_24 zy_Patches_isSame [0, 2, 3, 4, 5, 6] [0] [1, 2, 3, 4] = true) (zt_Patches_fillParts_24 hr2) ⟨⟨_, rfl, fun _ => rfl⟩, trivial⟩ ⟨rfl, rfl, rfl, rfl, trivial⟩) zd133_12 zxt128 rfl (by decide) (by decide) rfl ?_
  refine zv_ist hB zd133_15 rfl rfl rfl ?_
  refine zv_ald hB zd133_16 rfl rfl rfl ?_
  refine zv_ald hB zd133_17 rfl rfl rfl ?_
  refine zv_getr hB zd133_18 rfl ?_
  refine zv_ild hB zd133_21 rfl rfl ?_
  obtain ⟨c3, h⟩ := zi_if h
  refine zv_iald hB zd133_22 rfl rfl (zi_ix_ok c3).1 (zi_ix_ok c3).2 (fun _ _ => ?_)
  refine zv_ild hB zd133_23 rfl rfl ?_
  refine zv_ald hB zd133_24 rfl rfl rfl ?_
  refine zv_getr hB zd133_25 rfl ?_
  obtain ⟨r4, hr4, h⟩ := zi_bind h
  refine zv_cv hB (show zv_Fn _ _ _ zy_Patches_isSame _ _ [.inr 0, .inl (g0 x2), .inl x2, .inr 7] [.inl f0] [g0, r2.2, g2, g3, g4, g5] (some r4.1) [.inl f0] [g0, r2.2, g2, g3, g4, r4.2] from zv_emb (F := [.inl f0]) (G := [g0, r2.2, g2, g3, g4, g5]) zyw_Patches_fillParts_24 zyw_Patches_isSame zye_Patches_isSame (by decide +kernel : zv_ek zy_Patches_fillParts_24 zy_Patches_isSame [0, 7, 3, 4, 5, 6] [0] [5, 2, 3, 4] = true) (zt_Patches_fillParts_24 hr4) ⟨⟨_, rfl, fun _ => rfl⟩, trivial⟩ ⟨rfl, rfl, rfl, rfl, trivial⟩) zd133_28 zxt128 rfl (by decide) (by decide) rfl ?_
  refine zv_ist hB zd133_31 rfl rfl rfl ?_
  refine zv_ald hB zd133_33 rfl rfl rfl ?_
  refine zv_getr hB zd133_34 rfl ?_
  refine zv_ild hB zd133_37 rfl rfl ?_
  refine zv_ald hB zd133_38 rfl rfl rfl ?_
  refine zv_getr hB zd133_39 rfl ?_
  refine zv_ild hB zd133_42 rfl rfl ?_
  obtain ⟨r5, hr5, h⟩ := zi_bind h
  refine zv_cs hB (show zv_Fn _ _ _ zy_Patches_isSame _ _ [.inr 2, .inl r2.1, .inr 7, .inl r4.1] [.inl f0] [g0, r2.2, g2, g3, g4, r4.2] (some r5) [.inl f0] [g0, r2.2, g2, g3, g4, r4.2] from zv_emb (F := [.inl f0]) (G := [g0, r2.2, g2, g3, g4, r4.2]) zyw_Patches_hasAll_24_24 zyw_Patches_isSame zye_Patches_isSame (by decide +kernel : zv_ek zy_Patches_hasAll_24_24 zy_Patches_isSame [2, 7] [] [1, 5] = true) (zt_Patches_hasAll_24_24 hr5) trivial ⟨rfl, rfl, trivial⟩) zd133_44 zxt134 rfl (by decide) (by decide) rfl ?_
  refine zv_zeq hB zd133_47 rfl (fun hc6 => ?_) (fun hc6 => ?_)
  · rw [if_pos hc6] at h
    refine zv_con hB zd133_71 rfl ?_
    have hw := Option.some.inj h
    subst hw
    exact hret _ _ _ _ _ zd133_72 (by constructor <;> decide) ⟨rfl, rfl, rfl⟩
  · rw [if_neg hc6] at h
    refine zv_ald hB zd133_50 rfl rfl rfl ?_
    refine zv_getr hB zd133_51 rfl ?_
    refine zv_ild hB zd133_54 rfl rfl ?_
    refine zv_ald hB zd133_56 rfl rfl rfl ?_
    refine zv_getr hB zd133_57 rfl ?_
    refine zv_ild hB zd133_60 rfl rfl ?_
    obtain ⟨r7, hr7, h⟩ := zi_bind h
    refine zv_cs hB (show zv_Fn _ _ _ zy_Patches_isSame _ _ [.inr 7, .inl r4.1, .inr 2, .inl r2.1] [.inl f0] [g0, r2.2, g2, g3, g4, r4.2] (some r7) [.inl f0] [g0, r2.2, g2, g3, g4, r4.2] from zv_emb (F := [.inl f0]) (G := [g0, r2.2, g2, g3, g4, r4.2]) zyw_Patches_hasAll_24_24 zyw_Patches_isSame zye_Patches_isSame (by decide +kernel : zv_ek zy_Patches_hasAll_24_24 zy_Patches_isSame [7, 2] [] [5, 1] = true) (zt_Patches_hasAll_24_24 hr7) trivial ⟨rfl, rfl, trivial⟩) zd133_61 zxt134 rfl (by decide) (by decide) rfl ?_
    refine zv_zeq hB zd133_64 rfl (fun hc8 => ?_) (fun hc8 => ?_)
    · rw [if_pos hc8] at h
      refine zv_con hB zd133_71 rfl ?_
      have hw := Option.some.inj h
      subst hw
      exact hret _ _ _ _ _ zd133_72 (by constructor <;> decide) ⟨rfl, rfl, rfl⟩
    · rw [if_neg hc8] at h
      refine zv_con hB zd133_67 rfl ?_
      refine zv_goto hB zd133_68 rfl ?_
      have hw := Option.some.inj h
      subst hw
      exact hret _ _ _ _ _ zd133_72 (by constructor <;> decide) ⟨rfl, rfl, rfl⟩
/-! Tape_byteAt (I)I -/
-- names: 0 Tape('arg', 0), 1 (0, 220)(0, 3, 0)
-- fields: ; arrays: g0 = 1; out: [('ret', None)]
abbrev zy_Tape_byteAt : zNL := (2, [(0, 3)], [], [(0, 3, 0, 1)], [(1, 0, 220, 0)])
theorem zyw_Tape_byteAt : zv_wf zy_Tape_byteAt = true := by decide +kernel
theorem zye_Tape_byteAt : zv_ek2 zy_Tape_byteAt = true := by decide +kernel
def zf_Tape_byteAt (x1 : Int) (g0 : (Int → Int)) : Option (Int) := if x1 < 0 then (some 0) else (if x1 < 220 then (cond (zi_ix x1 220) (some (g0 x1)) none) else (some 0))
theorem zd138_0 : decode zxm138.2.1 0 = .ok (.iload_n 1, 1) := by decide +kernel
theorem zd138_1 : decode zxm138.2.1 1 = .ok (.ifCond .lt 19, 3) := by decide +kernel
theorem zd138_4 : decode zxm138.2.1 4 = .ok (.iload_n 1, 1) := by decide +kernel
theorem zd138_5 : decode zxm138.2.1 5 = .ok (.sipush 220, 3) := by decide +kernel
theorem zd138_8 : decode zxm138.2.1 8 = .ok (.if_icmp .ge 12, 3) := by decide +kernel
theorem zd138_11 : decode zxm138.2.1 11 = .ok (.aload_n 0, 1) := by decide +kernel
theorem zd138_12 : decode zxm138.2.1 12 = .ok (.getfield 9, 3) := by decide +kernel
theorem zd138_15 : decode zxm138.2.1 15 = .ok (.iload_n 1, 1) := by decide +kernel
theorem zd138_16 : decode zxm138.2.1 16 = .ok (.iaload, 1) := by decide +kernel
theorem zd138_17 : decode zxm138.2.1 17 = .ok (.goto 4, 3) := by decide +kernel
theorem zd138_20 : decode zxm138.2.1 20 = .ok (.iconst 0, 1) := by decide +kernel
theorem zd138_21 : decode zxm138.2.1 21 = .ok (.ireturn, 1) := by decide +kernel
theorem zt_Tape_byteAt {x1 : Int} {g0 : (Int → Int)} {o : Int} (h : zf_Tape_byteAt x1 g0 = some o) : zv_Fn z_TB z_cl z_KX zy_Tape_byteAt zxm138 (0, 0) [.inr 0, .inl x1] [] [g0] (some o) [] [g0] := zv_meth (K := (z_KF10, z_KC10, z_KL10, z_KT10, [], [], [], none)) (FT := z_FT) (MT := z_MT) (n := 2) zxp138 (z_ks10 _ (fun _ h => List.mem_cons_of_mem _ h) _ _ _ _ (fun j r h _ => by cases h)) (fun _ _ => zs_KX_p) zyw_Tape_byteAt (fun va F G h => by obtain ⟨rfl, _⟩ := h; rfl) rfl fun good va F G hB hret hvret hP => by
  obtain ⟨rfl, rfl, rfl⟩ := hP
  unfold zf_Tape_byteAt at h
  refine zv_ild hB zd138_0 rfl rfl ?_
  refine zv_zlt hB zd138_1 rfl (fun hc1 => ?_) (fun hc1 => ?_)
  · rw [if_pos hc1] at h
    refine zv_con hB zd138_20 rfl ?_
    have hw := Option.some.inj h
    subst hw
    exact hret _ _ _ _ _ zd138_21 (by trivial) ⟨rfl, rfl, rfl⟩
  · rw [if_neg (Int.not_lt.mpr hc1)] at h
    refine zv_ild hB zd138_4 rfl rfl ?_
    refine zv_con hB zd138_5 rfl ?_
    refine zv_cge hB zd138_8 rfl (fun hc2 => ?_) (fun hc2 => ?_)
    · rw [if_neg (Int.not_lt.mpr hc2)] at h
      refine zv_con hB zd138_20 rfl ?_
      have hw := Option.some.inj h
      subst hw
      exact hret _ _ _ _ _ zd138_21 (by trivial) ⟨rfl, rfl, rfl⟩
    · rw [if_pos hc2] at h
      refine zv_ald hB zd138_11 rfl rfl rfl ?_
      refine zv_getr hB zd138_12 rfl ?_
      refine zv_ild hB zd138_15 rfl rfl ?_
      obtain ⟨c3, h⟩ := zi_if h
      refine zv_iald hB zd138_16 rfl rfl (zi_ix_ok c3).1 (zi_ix_ok c3).2 (fun _ _ => ?_)
      refine zv_goto hB zd138_17 rfl ?_
      have hw := Option.some.inj h
      subst hw
      exact hret _ _ _ _ _ zd138_21 (by trivial) ⟨rfl, rfl, rfl⟩
/-! Patches_takeParts (LStarTales$Tape;I)V -/
-- names: 0 Patches('arg', 0), 1 Tape('arg', 1), 2 (0, 12)(0, 10, 2), 3 (0, 220)(1, 3, 0)
-- fields: f0 = 0.toldParts_; arrays: g0 = 2, g1 = 3; out: [('f', 0), ('g', 0)]
abbrev zy_Patches_takeParts : zNL := (4, [(0, 10), (1, 3)], [(0, 10, 3, 0)], [(0, 10, 2, 2), (1, 3, 0, 3)], [(2, 0, 12, 0), (3, 0, 220, 1)])
theorem zyw_Patches_takeParts : zv_wf zy_Patches_takeParts = true := by decide +kernel
theorem zye_Patches_takeParts : zv_ek2 zy_Patches_takeParts = true := by decide +kernel
def zf_Patches_takeParts_l0_b (f0 : Int) (g1 : (Int → Int)) (rec : Int → (Int → Int) → Option ((Int → Int))) (x3 : Int) (g0 : (Int → Int)) : Option ((Int → Int)) := if x3 < f0 then ((zf_Tape_byteAt (zi_w (3 * x3)) g1).bind fun r3 => ((zf_Tape_byteAt (zi_w ((zi_w (3 * x3)) + 1)) g1).bind fun r4 => ((zf_Tape_byteAt (zi_w ((zi_w (3 * x3)) + 2)) g1).bind fun r5 => ((zf_Patches_partOf r3 r4 r5).bind fun r6 => (cond (zi_ix x3 12) (rec (zi_w (x3 + 1)) (zv_up g0 x3 r6)) none))))) else (some g0)
def zf_Patches_takeParts_l0 (f0 : Int) (g1 : (Int → Int)) : Nat → Int → (Int → Int) → Option ((Int → Int))
  | 0, _, _ => none
  | n + 1, x3, g0 => zf_Patches_takeParts_l0_b f0 g1 (zf_Patches_takeParts_l0 f0 g1 n) x3 g0
def zf_Patches_takeParts (x2 : Int) (f0 : Int) (g0 : (Int → Int)) (g1 : (Int → Int)) : Option (Int × (Int → Int)) := (zf_Math_min x2 12).bind fun r1 => ((zf_Patches_takeParts_l0 r1 g1 zi_fu 0 g0).bind fun q8 => (some (r1, q8)))
theorem zd137_0 : decode zxm137.2.1 0 = .ok (.aload_n 0, 1) := by decide +kernel
theorem zd137_1 : decode zxm137.2.1 1 = .ok (.iload_n 2, 1) := by decide +kernel
theorem zd137_2 : decode zxm137.2.1 2 = .ok (.bipush 12, 2) := by decide +kernel
theorem zd137_4 : decode zxm137.2.1 4 = .ok (.invokestatic 89, 3) := by decide +kernel
theorem zd137_7 : decode zxm137.2.1 7 = .ok (.putfield 22, 3) := by decide +kernel
theorem zd137_10 : decode zxm137.2.1 10 = .ok (.iconst 0, 1) := by decide +kernel
theorem zd137_11 : decode zxm137.2.1 11 = .ok (.istore_n 3, 1) := by decide +kernel
theorem zd137_12 : decode zxm137.2.1 12 = .ok (.iload_n 3, 1) := by decide +kernel
theorem zd137_13 : decode zxm137.2.1 13 = .ok (.aload_n 0, 1) := by decide +kernel
theorem zd137_14 : decode zxm137.2.1 14 = .ok (.getfield 22, 3) := by decide +kernel
theorem zd137_17 : decode zxm137.2.1 17 = .ok (.if_icmp .ge 43, 3) := by decide +kernel
theorem zd137_20 : decode zxm137.2.1 20 = .ok (.aload_n 0, 1) := by decide +kernel
theorem zd137_21 : decode zxm137.2.1 21 = .ok (.getfield 19, 3) := by decide +kernel
theorem zd137_24 : decode zxm137.2.1 24 = .ok (.iload_n 3, 1) := by decide +kernel
theorem zd137_25 : decode zxm137.2.1 25 = .ok (.aload_n 1, 1) := by decide +kernel
theorem zd137_26 : decode zxm137.2.1 26 = .ok (.iconst 3, 1) := by decide +kernel
theorem zd137_27 : decode zxm137.2.1 27 = .ok (.iload_n 3, 1) := by decide +kernel
theorem zd137_28 : decode zxm137.2.1 28 = .ok (.imul, 1) := by decide +kernel
theorem zd137_29 : decode zxm137.2.1 29 = .ok (.invokevirtual 92, 3) := by decide +kernel
theorem zd137_32 : decode zxm137.2.1 32 = .ok (.aload_n 1, 1) := by decide +kernel
theorem zd137_33 : decode zxm137.2.1 33 = .ok (.iconst 3, 1) := by decide +kernel
theorem zd137_34 : decode zxm137.2.1 34 = .ok (.iload_n 3, 1) := by decide +kernel
theorem zd137_35 : decode zxm137.2.1 35 = .ok (.imul, 1) := by decide +kernel
theorem zd137_36 : decode zxm137.2.1 36 = .ok (.iconst 1, 1) := by decide +kernel
theorem zd137_37 : decode zxm137.2.1 37 = .ok (.iadd, 1) := by decide +kernel
theorem zd137_38 : decode zxm137.2.1 38 = .ok (.invokevirtual 92, 3) := by decide +kernel
theorem zd137_41 : decode zxm137.2.1 41 = .ok (.aload_n 1, 1) := by decide +kernel
theorem zd137_42 : decode zxm137.2.1 42 = .ok (.iconst 3, 1) := by decide +kernel
theorem zd137_43 : decode zxm137.2.1 43 = .ok (.iload_n 3, 1) := by decide +kernel
theorem zd137_44 : decode zxm137.2.1 44 = .ok (.imul, 1) := by decide +kernel
theorem zd137_45 : decode zxm137.2.1 45 = .ok (.iconst 2, 1) := by decide +kernel
theorem zd137_46 : decode zxm137.2.1 46 = .ok (.iadd, 1) := by decide +kernel
theorem zd137_47 : decode zxm137.2.1 47 = .ok (.invokevirtual 92, 3) := by decide +kernel
theorem zd137_50 : decode zxm137.2.1 50 = .ok (.invokestatic 74, 3) := by decide +kernel
theorem zd137_53 : decode zxm137.2.1 53 = .ok (.iastore, 1) := by decide +kernel
theorem zd137_54 : decode zxm137.2.1 54 = .ok (.iinc 3 1, 3) := by decide +kernel
theorem zd137_57 : decode zxm137.2.1 57 = .ok (.goto (-45), 3) := by decide +kernel
theorem zd137_60 : decode zxm137.2.1 60 = .ok (.return_, 1) := by decide +kernel
theorem zt_Patches_takeParts {x2 : Int} {f0 : Int} {g0 : (Int → Int)} {g1 : (Int → Int)} {o : Int × (Int → Int)} (h : zf_Patches_takeParts x2 f0 g0 g1 = some o) : zv_Fn z_TB z_cl z_KX zy_Patches_takeParts zxm137 (1, 60) [.inr 0, .inr 1, .inl x2] [.inl f0] [g0, g1] none [.inl o.1] [o.2, g1] := zv_meth (K := (z_KF5, z_KC5, z_KL5, z_KT5, [], [], [], none)) (FT := z_FT) (MT := z_MT) (n := 3) zxp137 (z_ks5 _ (fun _ h => List.mem_cons_of_mem _ h) _ _ _ _ (fun j r h _ => by cases h)) (fun _ _ => zs_KX_p) zyw_Patches_takeParts (fun va F G h => by obtain ⟨rfl, _⟩ := h; rfl) rfl fun good va F G hB hret hvret hP => by
  obtain ⟨rfl, rfl, rfl⟩ := hP
  have l0 : ∀ (n : Nat) (x3 : Int) (f0 : Int) (g0 : (Int → Int)) (q : (Int → Int)), zf_Patches_takeParts_l0 f0 g1 n x3 g0 = some q → (good 60 [.inr 1000, .inr 1000, .inr 1000, .inr 1000] [] [.inl f0] [q, g1]) → good 12 [.inr 0, .inr 1, .inr 1000, .inl x3] [] [.inl f0] [g0, g1] := by
    intro n
    induction n with
    | zero => intro x3 f0 g0 q h; exact absurd (show none = some q from h) (fun h => by cases h)
    | succ n ih =>
      intro x3 f0 g0 q h hK
      replace h : zf_Patches_takeParts_l0_b f0 g1 (zf_Patches_takeParts_l0 f0 g1 n) x3 g0 = some q := h
      unfold zf_Patches_takeParts_l0_b at h
      refine zv_ild hB zd137_12 rfl rfl ?_
      refine zv_ald hB zd137_13 rfl rfl rfl ?_
      refine zv_getf hB zd137_14 rfl rfl (fun _ _ => ?_)
      refine zv_cge hB zd137_17 rfl (fun hc2 => ?_) (fun hc2 => ?_)
      · rw [if_neg (Int.not_lt.mpr hc2)] at h
        have hq := Option.some.inj h
        subst hq
        refine zv_wk hB (L' := [.inr 1000, .inr 1000, .inr 1000, .inr 1000]) (F' := [.inl f0]) ⟨fun h => (Nat.lt_irrefl 1000 h).elim, fun h => (Nat.lt_irrefl 1000 h).elim, fun h => (Nat.lt_irrefl 1000 h).elim, fun h => (Nat.lt_irrefl 1000 h).elim, trivial⟩ ⟨fun _ => rfl, trivial⟩ ?_
        exact hK
      · rw [if_pos hc2] at h
        refine zv_ald hB zd137_20 rfl rfl rfl ?_
        refine zv_getr hB zd137_21 rfl ?_
        refine zv_ild hB zd137_24 rfl rfl ?_
        refine zv_ald hB zd137_25 rfl rfl rfl ?_
        refine zv_con hB zd137_26 rfl ?_
        refine zv_ild hB zd137_27 rfl rfl ?_
        refine zv_mulw hB zd137_28 ?_
        obtain ⟨r3, hr3, h⟩ := zi_bind h
        refine zv_cv hB (show zv_Fn _ _ _ zy_Patches_takeParts _ _ [.inr 1, .inl (zi_w (3 * x3))] [.inl f0] [g0, g1] (some r3) [.inl f0] [g0, g1] from zv_emb (F := [.inl f0]) (G := [g0, g1]) zyw_Tape_byteAt zyw_Patches_takeParts zye_Patches_takeParts (by decide +kernel : zv_ek zy_Tape_byteAt zy_Patches_takeParts [1, 3] [] [1] = true) (zt_Tape_byteAt hr3) trivial ⟨rfl, trivial⟩) zd137_29 zxt138 rfl (by decide) (by decide) rfl ?_
        refine zv_ald hB zd137_32 rfl rfl rfl ?_
        refine zv_con hB zd137_33 rfl ?_
        refine zv_ild hB zd137_34 rfl rfl ?_
        refine zv_mulw hB zd137_35 ?_
        refine zv_con hB zd137_36 rfl ?_
        refine zv_addw hB zd137_37 ?_
        obtain ⟨r4, hr4, h⟩ := zi_bind h
        refine zv_cv hB (show zv_Fn _ _ _ zy_Patches_takeParts _ _ [.inr 1, .inl (zi_w ((zi_w (3 * x3)) + 1))] [.inl f0] [g0, g1] (some r4) [.inl f0] [g0, g1] from zv_emb (F := [.inl f0]) (G := [g0, g1]) zyw_Tape_byteAt zyw_Patches_takeParts zye_Patches_takeParts (by decide +kernel : zv_ek zy_Tape_byteAt zy_Patches_takeParts [1, 3] [] [1] = true) (zt_Tape_byteAt hr4) trivial ⟨rfl, trivial⟩) zd137_38 zxt138 rfl (by decide) (by decide) rfl ?_
        refine zv_ald hB zd137_41 rfl rfl rfl ?_
        refine zv_con hB zd137_42 rfl ?_
        refine zv_ild hB zd137_43 rfl rfl ?_
        refine zv_mulw hB zd137_44 ?_
        refine zv_con hB zd137_45 rfl ?_
        refine zv_addw hB zd137_46 ?_
        obtain ⟨r5, hr5, h⟩ := zi_bind h
        refine zv_cv hB (show zv_Fn _ _ _ zy_Patches_takeParts _ _ [.inr 1, .inl (zi_w ((zi_w (3 * x3)) + 2))] [.inl f0] [g0, g1] (some r5) [.inl f0] [g0, g1] from zv_emb (F := [.inl f0]) (G := [g0, g1]) zyw_Tape_byteAt zyw_Patches_takeParts zye_Patches_takeParts (by decide +kernel : zv_ek zy_Tape_byteAt zy_Patches_takeParts [1, 3] [] [1] = true) (zt_Tape_byteAt hr5) trivial ⟨rfl, trivial⟩) zd137_47 zxt138 rfl (by decide) (by decide) rfl ?_
        obtain ⟨r6, hr6, h⟩ := zi_bind h
        refine zv_cs hB (show zv_Fn _ _ _ zy_Patches_takeParts _ _ [.inl r3, .inl r4, .inl r5] [.inl f0] [g0, g1] (some r6) [.inl f0] [g0, g1] from zv_emb (F := [.inl f0]) (G := [g0, g1]) zyw_Patches_partOf zyw_Patches_takeParts zye_Patches_takeParts (by decide +kernel : zv_ek zy_Patches_partOf zy_Patches_takeParts [] [] [] = true) (zt_Patches_partOf hr6) trivial trivial) zd137_50 zxt130 rfl (by decide) (by decide) rfl ?_
        obtain ⟨c7, h⟩ := zi_if h
        refine zv_iast hB zd137_53 rfl rfl (zi_ix_ok c7).1 (zi_ix_ok c7).2 ?_
        refine zv_iincw hB zd137_54 rfl rfl ?_
        refine zv_goto hB zd137_57 rfl ?_
        exact ih _ _ _ q h hK
  unfold zf_Patches_takeParts at h
  refine zv_ald hB zd137_0 rfl rfl rfl ?_
  refine zv_ild hB zd137_1 rfl rfl ?_
  refine zv_con hB zd137_2 rfl ?_
  obtain ⟨r1, hr1, h⟩ := zi_bind h
  refine zv_cs hB (show zv_Fn _ _ _ zy_Patches_takeParts _ _ [.inl x2, .inl 12] [.inl f0] [g0, g1] (some r1) [.inl f0] [g0, g1] from zv_emb (F := [.inl f0]) (G := [g0, g1]) zyw_Math_min zyw_Patches_takeParts zye_Patches_takeParts (by decide +kernel : zv_ek zy_Math_min zy_Patches_takeParts [] [] [] = true) (zt_Math_min hr1) trivial trivial) zd137_4 zxt37 rfl (by decide) (by decide) rfl ?_
  refine zv_putf hB zd137_7 rfl rfl (fun h => by cases h) rfl ?_
  refine zv_con hB zd137_10 rfl ?_
  refine zv_ist hB zd137_11 rfl rfl rfl ?_
  obtain ⟨q8, hq8, h⟩ := zi_bind h
  refine zv_wk hB (L' := [.inr 0, .inr 1, .inr 1000, .inl 0]) (F' := [.inl r1]) ⟨fun _ => rfl, fun _ => rfl, fun h => (Nat.lt_irrefl 1000 h).elim, fun _ => rfl, trivial⟩ ⟨fun _ => rfl, trivial⟩ ?_
  refine l0 _ _ _ _ q8 hq8 ?_
  show good 60 [.inr 1000, .inr 1000, .inr 1000, .inr 1000] [] [.inl r1] [q8, g1]
  have hw := Option.some.inj h
  subst hw
  exact hvret _ _ _ _ zd137_60 trivial ⟨rfl, rfl, rfl⟩
/-! Patches_hasAll_24_12 ([II[II)Z -/
-- names: 0 (0, 24)('arg', 0), 1 (0, 12)('arg', 2)
-- fields: ; arrays: g0 = 0, g1 = 1; out: [('ret', None)]
abbrev zy_Patches_hasAll_24_12 : zNL := (2, [], [], [], [(0, 0, 24, 0), (1, 0, 12, 1)])
theorem zyw_Patches_hasAll_24_12 : zv_wf zy_Patches_hasAll_24_12 = true := by decide +kernel
theorem zye_Patches_hasAll_24_12 : zv_ek2 zy_Patches_hasAll_24_12 = true := by decide +kernel
def zf_Patches_hasAll_24_12_l1_b (x1 : Int) (x4 : Int) (g0 : (Int → Int)) (g1 : (Int → Int)) (rec : Int → Int → Option (Int)) (x5 : Int) (x6 : Int) : Option (Int) := if x6 < x1 then (if x5 = 0 then (cond (zi_ix x6 24) (cond (zi_ix x4 12) (if (g0 x6) = (g1 x4) then (rec 1 (zi_w (x6 + 1))) else (rec 0 (zi_w (x6 + 1)))) none) none) else (some x5)) else (some x5)
def zf_Patches_hasAll_24_12_l1 (x1 : Int) (x4 : Int) (g0 : (Int → Int)) (g1 : (Int → Int)) : Nat → Int → Int → Option (Int)
  | 0, _, _ => none
  | n + 1, x5, x6 => zf_Patches_hasAll_24_12_l1_b x1 x4 g0 g1 (zf_Patches_hasAll_24_12_l1 x1 x4 g0 g1 n) x5 x6
def zf_Patches_hasAll_24_12_l0_b (x1 : Int) (x3 : Int) (g0 : (Int → Int)) (g1 : (Int → Int)) (rec : Int → Option (((Unit) ⊕ (Int)))) (x4 : Int) : Option (((Unit) ⊕ (Int))) := if x4 < x3 then ((zf_Patches_hasAll_24_12_l1 x1 x4 g0 g1 zi_fu 0 0).bind fun q7 => (if q7 = 0 then (some (.inr 0)) else (rec (zi_w (x4 + 1))))) else (some (.inl ()))
def zf_Patches_hasAll_24_12_l0 (x1 : Int) (x3 : Int) (g0 : (Int → Int)) (g1 : (Int → Int)) : Nat → Int → Option (((Unit) ⊕ (Int)))
  | 0, _ => none
  | n + 1, x4 => zf_Patches_hasAll_24_12_l0_b x1 x3 g0 g1 (zf_Patches_hasAll_24_12_l0 x1 x3 g0 g1 n) x4
def zf_Patches_hasAll_24_12 (x1 : Int) (x3 : Int) (g0 : (Int → Int)) (g1 : (Int → Int)) : Option (Int) := (zf_Patches_hasAll_24_12_l0 x1 x3 g0 g1 zi_fu 0).bind fun q9 => Sum.elim (fun e10 => (some 1)) (fun w11 => some w11) q9
theorem zt_Patches_hasAll_24_12 {x1 : Int} {x3 : Int} {g0 : (Int → Int)} {g1 : (Int → Int)} {o : Int} (h : zf_Patches_hasAll_24_12 x1 x3 g0 g1 = some o) : zv_Fn z_TB z_cl z_KX zy_Patches_hasAll_24_12 zxm134 (0, 0) [.inr 0, .inl x1, .inr 1, .inl x3] [] [g0, g1] (some o) [] [g0, g1] := zv_meth (K := (z_KF5, z_KC5, z_KL5, z_KT5, [], [], [], none)) (FT := z_FT) (MT := z_MT) (n := 4) zxp134 (z_ks5 _ (fun _ h => List.mem_cons_of_mem _ h) _ _ _ _ (fun j r h _ => by cases h)) (fun _ _ => zs_KX_p) zyw_Patches_hasAll_24_12 (fun va F G h => by obtain ⟨rfl, _⟩ := h; rfl) rfl fun good va F G hB hret hvret hP => by
  obtain ⟨rfl, rfl, rfl⟩ := hP
  have l1 : ∀ (n : Nat) (x1 : Int) (x3 : Int) (x4 : Int) (x5 : Int) (x6 : Int) (q : Int), zf_Patches_hasAll_24_12_l1 x1 x4 g0 g1 n x5 x6 = some q → (good 50 [.inr 0, .inl x1, .inr 1, .inl x3, .inl x4, .inl q, .inr 1000] [] [] [g0, g1]) → good 15 [.inr 0, .inl x1, .inr 1, .inl x3, .inl x4, .inl x5, .inl x6] [] [] [g0, g1] := by
    intro n
    induction n with
    | zero => intro x1 x3 x4 x5 x6 q h; exact absurd (show none = some q from h) (fun h => by cases h)
    | succ n ih =>
      intro x1 x3 x4 x5 x6 q h hK
      replace h : zf_Patches_hasAll_24_12_l1_b x1 x4 g0 g1 (zf_Patches_hasAll_24_12_l1 x1 x4 g0 g1 n) x5 x6 = some q := h
      unfold zf_Patches_hasAll_24_12_l1_b at h
      refine zv_ild hB zd134_15 rfl rfl ?_
      refine zv_ild hB zd134_17 rfl rfl ?_
      refine zv_cge hB zd134_18 rfl (fun hc2 => ?_) (fun hc2 => ?_)
      · rw [if_neg (Int.not_lt.mpr hc2)] at h
        have hq := Option.some.inj h
        subst hq
        refine zv_wk hB (L' := [.inr 0, .inl x1, .inr 1, .inl x3, .inl x4, .inl x5, .inr 1000]) (F' := []) ⟨fun _ => rfl, fun _ => rfl, fun _ => rfl, fun _ => rfl, fun _ => rfl, fun _ => rfl, fun h => (Nat.lt_irrefl 1000 h).elim, trivial⟩ trivial ?_
        exact hK
      · rw [if_pos hc2] at h
        refine zv_ild hB zd134_21 rfl rfl ?_
        refine zv_zne hB zd134_23 rfl (fun hc3 => ?_) (fun hc3 => ?_)
        · rw [if_neg hc3] at h
          have hq := Option.some.inj h
          subst hq
          refine zv_wk hB (L' := [.inr 0, .inl x1, .inr 1, .inl x3, .inl x4, .inl x5, .inr 1000]) (F' := []) ⟨fun _ => rfl, fun _ => rfl, fun _ => rfl, fun _ => rfl, fun _ => rfl, fun _ => rfl, fun h => (Nat.lt_irrefl 1000 h).elim, trivial⟩ trivial ?_
          exact hK
        · rw [if_pos hc3] at h
          refine zv_ald hB zd134_26 rfl rfl rfl ?_
          refine zv_ild hB zd134_27 rfl rfl ?_
          obtain ⟨c4, h⟩ := zi_if h
          refine zv_iald hB zd134_29 rfl rfl (zi_ix_ok c4).1 (zi_ix_ok c4).2 (fun _ _ => ?_)
          refine zv_ald hB zd134_30 rfl rfl rfl ?_
          refine zv_ild hB zd134_31 rfl rfl ?_
          obtain ⟨c5, h⟩ := zi_if h
          refine zv_iald hB zd134_33 rfl rfl (zi_ix_ok c5).1 (zi_ix_ok c5).2 (fun _ _ => ?_)
          refine zv_cne hB zd134_34 rfl (fun hc6 => ?_) (fun hc6 => ?_)
          · rw [if_neg hc6] at h
            refine zv_con hB zd134_41 rfl ?_
            refine zv_ist hB zd134_42 rfl rfl rfl ?_
            refine zv_iincw hB zd134_44 rfl rfl ?_
            refine zv_goto hB zd134_47 rfl ?_
            exact ih _ _ _ _ _ q h hK
          · rw [if_pos hc6] at h
            refine zv_con hB zd134_37 rfl ?_
            refine zv_goto hB zd134_38 rfl ?_
            refine zv_ist hB zd134_42 rfl rfl rfl ?_
            refine zv_iincw hB zd134_44 rfl rfl ?_
            refine zv_goto hB zd134_47 rfl ?_
            exact ih _ _ _ _ _ q h hK
  have l0 : ∀ (n : Nat) (x1 : Int) (x3 : Int) (x4 : Int) (q : ((Unit) ⊕ (Int))), zf_Patches_hasAll_24_12_l0 x1 x3 g0 g1 n x4 = some q → (Sum.elim (fun e : Unit => good 63 [.inr 1000, .inr 1000, .inr 1000, .inr 1000, .inr 1000, .inr 1000, .inr 1000] [] [] [g0, g1]) (fun w : Int => w = o) q) → good 3 [.inr 0, .inl x1, .inr 1, .inl x3, .inl x4, .inr 1000, .inr 1000] [] [] [g0, g1] := by
    intro n
    induction n with
    | zero => intro x1 x3 x4 q h; exact absurd (show none = some q from h) (fun h => by cases h)
    | succ n ih =>
      intro x1 x3 x4 q h hK
      replace h : zf_Patches_hasAll_24_12_l0_b x1 x3 g0 g1 (zf_Patches_hasAll_24_12_l0 x1 x3 g0 g1 n) x4 = some q := h
      unfold zf_Patches_hasAll_24_12_l0_b at h
      refine zv_ild hB zd134_3 rfl rfl ?_
      refine zv_ild hB zd134_5 rfl rfl ?_
      refine zv_cge hB zd134_6 rfl (fun hc1 => ?_) (fun hc1 => ?_)
      · rw [if_neg (Int.not_lt.mpr hc1)] at h
        have hq := Option.some.inj h
        subst hq
        refine zv_wk hB (L' := [.inr 1000, .inr 1000, .inr 1000, .inr 1000, .inr 1000, .inr 1000, .inr 1000]) (F' := []) ⟨fun h => (Nat.lt_irrefl 1000 h).elim, fun h => (Nat.lt_irrefl 1000 h).elim, fun h => (Nat.lt_irrefl 1000 h).elim, fun h => (Nat.lt_irrefl 1000 h).elim, fun h => (Nat.lt_irrefl 1000 h).elim, fun h => (Nat.lt_irrefl 1000 h).elim, fun h => (Nat.lt_irrefl 1000 h).elim, trivial⟩ trivial ?_
        exact hK
      · rw [if_pos hc1] at h
        refine zv_con hB zd134_9 rfl ?_
        refine zv_ist hB zd134_10 rfl rfl rfl ?_
        refine zv_con hB zd134_12 rfl ?_
        refine zv_ist hB zd134_13 rfl rfl rfl ?_
        obtain ⟨q7, hq7, h⟩ := zi_bind h
        refine l1 _ _ _ _ _ _ q7 hq7 ?_
        show good 50 [.inr 0, .inl x1, .inr 1, .inl x3, .inl x4, .inl q7, .inr 1000] [] [] [g0, g1]
        refine zv_ild hB zd134_50 rfl rfl ?_
        refine zv_zne hB zd134_52 rfl (fun hc8 => ?_) (fun hc8 => ?_)
        · rw [if_neg hc8] at h
          refine zv_iincw hB zd134_57 rfl rfl ?_
          refine zv_goto hB zd134_60 rfl ?_
          refine zv_wk hB (L' := [.inr 0, .inl x1, .inr 1, .inl x3, .inl (zi_w (x4 + 1)), .inr 1000, .inr 1000]) (F' := []) ⟨fun _ => rfl, fun _ => rfl, fun _ => rfl, fun _ => rfl, fun _ => rfl, fun h => (Nat.lt_irrefl 1000 h).elim, fun h => (Nat.lt_irrefl 1000 h).elim, trivial⟩ trivial ?_
          exact ih _ _ _ q h hK
        · rw [if_pos hc8] at h
          refine zv_con hB zd134_55 rfl ?_
          have hw : 0 = o := zi_rk (Option.some.inj h) hK
          subst hw
          exact hret _ _ _ _ _ zd134_56 (by constructor <;> decide) ⟨rfl, rfl, rfl⟩
  unfold zf_Patches_hasAll_24_12 at h
  refine zv_con hB zd134_0 rfl ?_
  refine zv_ist hB zd134_1 rfl rfl rfl ?_
  obtain ⟨q9, hq9, h⟩ := zi_bind h
  refine l0 _ _ _ _ q9 hq9 ?_
  rcases q9 with e10 | w11
  · replace h := zi_sl h
    show good 63 [.inr 1000, .inr 1000, .inr 1000, .inr 1000, .inr 1000, .inr 1000, .inr 1000] [] [] [g0, g1]
    refine zv_con hB zd134_63 rfl ?_
    have hw := Option.some.inj h
    subst hw
    exact hret _ _ _ _ _ zd134_64 (by constructor <;> decide) ⟨rfl, rfl, rfl⟩
  · exact Option.some.inj h
/-! Patches_hasAll_12_24 ([II[II)Z -/
-- names: 0 (0, 12)('arg', 0), 1 (0, 24)('arg', 2)
-- fields: ; arrays: g0 = 0, g1 = 1; out: [('ret', None)]
abbrev zy_Patches_hasAll_12_24 : zNL := (2, [], [], [], [(0, 0, 12, 0), (1, 0, 24, 1)])
theorem zyw_Patches_hasAll_12_24 : zv_wf zy_Patches_hasAll_12_24 = true := by decide +kernel
theorem zye_Patches_hasAll_12_24 : zv_ek2 zy_Patches_hasAll_12_24 = true := by decide +kernel
def zf_Patches_hasAll_12_24_l1_b (x1 : Int) (x4 : Int) (g0 : (Int → Int)) (g1 : (Int → Int)) (rec : Int → Int → Option (Int)) (x5 : Int) (x6 : Int) : Option (Int) := if x6 < x1 then (if x5 = 0 then (cond (zi_ix x6 12) (cond (zi_ix x4 24) (if (g0 x6) = (g1 x4) then (rec 1 (zi_w (x6 + 1))) else (rec 0 (zi_w (x6 + 1)))) none) none) else (some x5)) else (some x5)
def zf_Patches_hasAll_12_24_l1 (x1 : Int) (x4 : Int) (g0 : (Int → Int)) (g1 : (Int → Int)) : Nat → Int → Int → Option (Int)
  | 0, _, _ => none
  | n + 1, x5, x6 => zf_Patches_hasAll_12_24_l1_b x1 x4 g0 g1 (zf_Patches_hasAll_12_24_l1 x1 x4 g0 g1 n) x5 x6
def zf_Patches_hasAll_12_24_l0_b (x1 : Int) (x3 : Int) (g0 : (Int → Int)) (g1 : (Int → Int)) (rec : Int → Option (((Unit) ⊕ (Int)))) (x4 : Int) : Option (((Unit) ⊕ (Int))) := if x4 < x3 then ((zf_Patches_hasAll_12_24_l1 x1 x4 g0 g1 zi_fu 0 0).bind fun q7 => (if q7 = 0 then (some (.inr 0)) else (rec (zi_w (x4 + 1))))) else (some (.inl ()))
def zf_Patches_hasAll_12_24_l0 (x1 : Int) (x3 : Int) (g0 : (Int → Int)) (g1 : (Int → Int)) : Nat → Int → Option (((Unit) ⊕ (Int)))
  | 0, _ => none
  | n + 1, x4 => zf_Patches_hasAll_12_24_l0_b x1 x3 g0 g1 (zf_Patches_hasAll_12_24_l0 x1 x3 g0 g1 n) x4
def zf_Patches_hasAll_12_24 (x1 : Int) (x3 : Int) (g0 : (Int → Int)) (g1 : (Int → Int)) : Option (Int) := (zf_Patches_hasAll_12_24_l0 x1 x3 g0 g1 zi_fu 0).bind fun q9 => Sum.elim (fun e10 => (some 1)) (fun w11 => some w11) q9
theorem zt_Patches_hasAll_12_24 {x1 : Int} {x3 : Int} {g0 : (Int → Int)} {g1 : (Int → Int)} {o : Int} (h : zf_Patches_hasAll_12_24 x1 x3 g0 g1 = some o) : zv_Fn z_TB z_cl z_KX zy_Patches_hasAll_12_24 zxm134 (0, 0) [.inr 0, .inl x1, .inr 1, .inl x3] [] [g0, g1] (some o) [] [g0, g1] := zv_meth (K := (z_KF5, z_KC5, z_KL5, z_KT5, [], [], [], none)) (FT := z_FT) (MT := z_MT) (n := 4) zxp134 (z_ks5 _ (fun _ h => List.mem_cons_of_mem _ h) _ _ _ _ (fun j r h _ => by cases h)) (fun _ _ => zs_KX_p) zyw_Patches_hasAll_12_24 (fun va F G h => by obtain ⟨rfl, _⟩ := h; rfl) rfl fun good va F G hB hret hvret hP => by
  obtain ⟨rfl, rfl, rfl⟩ := hP
  have l1 : ∀ (n : Nat) (x1 : Int) (x3 : Int) (x4 : Int) (x5 : Int) (x6 : Int) (q : Int), zf_Patches_hasAll_12_24_l1 x1 x4 g0 g1 n x5 x6 = some q → (good 50 [.inr 0, .inl x1, .inr 1, .inl x3, .inl x4, .inl q, .inr 1000] [] [] [g0, g1]) → good 15 [.inr 0, .inl x1, .inr 1, .inl x3, .inl x4, .inl x5, .inl x6] [] [] [g0, g1] := by
    intro n
    induction n with
    | zero => intro x1 x3 x4 x5 x6 q h; exact absurd (show none = some q from h) (fun h => by cases h)
    | succ n ih =>
      intro x1 x3 x4 x5 x6 q h hK
      replace h : zf_Patches_hasAll_12_24_l1_b x1 x4 g0 g1 (zf_Patches_hasAll_12_24_l1 x1 x4 g0 g1 n) x5 x6 = some q := h
      unfold zf_Patches_hasAll_12_24_l1_b at h
      refine zv_ild hB zd134_15 rfl rfl ?_
      refine zv_ild hB zd134_17 rfl rfl ?_
      refine zv_cge hB zd134_18 rfl (fun hc2 => ?_) (fun hc2 => ?_)
      · rw [if_neg (Int.not_lt.mpr hc2)] at h
        have hq := Option.some.inj h
        subst hq
        refine zv_wk hB (L' := [.inr 0, .inl x1, .inr 1, .inl x3, .inl x4, .inl x5, .inr 1000]) (F' := []) ⟨fun _ => rfl, fun _ => rfl, fun _ => rfl, fun _ => rfl, fun _ => rfl, fun _ => rfl, fun h => (Nat.lt_irrefl 1000 h).elim, trivial⟩ trivial ?_
        exact hK
      · rw [if_pos hc2] at h
        refine zv_ild hB zd134_21 rfl rfl ?_
        refine zv_zne hB zd134_23 rfl (fun hc3 => ?_) (fun hc3 => ?_)
        · rw [if_neg hc3] at h
          have hq := Option.some.inj h
          subst hq
          refine zv_wk hB (L' := [.inr 0, .inl x1, .inr 1, .inl x3, .inl x4, .inl x5, .inr 1000]) (F' := []) ⟨fun _ => rfl, fun _ => rfl, fun _ => rfl, fun _ => rfl, fun _ => rfl, fun _ => rfl, fun h => (Nat.lt_irrefl 1000 h).elim, trivial⟩ trivial ?_
          exact hK
        · rw [if_pos hc3] at h
          refine zv_ald hB zd134_26 rfl rfl rfl ?_
          refine zv_ild hB zd134_27 rfl rfl ?_
          obtain ⟨c4, h⟩ := zi_if h
          refine zv_iald hB zd134_29 rfl rfl (zi_ix_ok c4).1 (zi_ix_ok c4).2 (fun _ _ => ?_)
          refine zv_ald hB zd134_30 rfl rfl rfl ?_
          refine zv_ild hB zd134_31 rfl rfl ?_
          obtain ⟨c5, h⟩ := zi_if h
          refine zv_iald hB zd134_33 rfl rfl (zi_ix_ok c5).1 (zi_ix_ok c5).2 (fun _ _ => ?_)
          refine zv_cne hB zd134_34 rfl (fun hc6 => ?_) (fun hc6 => ?_)
          · rw [if_neg hc6] at h
            refine zv_con hB zd134_41 rfl ?_
            refine zv_ist hB zd134_42 rfl rfl rfl ?_
            refine zv_iincw hB zd134_44 rfl rfl ?_
            refine zv_goto hB zd134_47 rfl ?_
            exact ih _ _ _ _ _ q h hK
          · rw [if_pos hc6] at h
            refine zv_con hB zd134_37 rfl ?_
            refine zv_goto hB zd134_38 rfl ?_
            refine zv_ist hB zd134_42 rfl rfl rfl ?_
            refine zv_iincw hB zd134_44 rfl rfl ?_
            refine zv_goto hB zd134_47 rfl ?_
            exact ih _ _ _ _ _ q h hK
  have l0 : ∀ (n : Nat) (x1 : Int) (x3 : Int) (x4 : Int) (q : ((Unit) ⊕ (Int))), zf_Patches_hasAll_12_24_l0 x1 x3 g0 g1 n x4 = some q → (Sum.elim (fun e : Unit => good 63 [.inr 1000, .inr 1000, .inr 1000, .inr 1000, .inr 1000, .inr 1000, .inr 1000] [] [] [g0, g1]) (fun w : Int => w = o) q) → good 3 [.inr 0, .inl x1, .inr 1, .inl x3, .inl x4, .inr 1000, .inr 1000] [] [] [g0, g1] := by
    intro n
    induction n with
    | zero => intro x1 x3 x4 q h; exact absurd (show none = some q from h) (fun h => by cases h)
    | succ n ih =>
      intro x1 x3 x4 q h hK
      replace h : zf_Patches_hasAll_12_24_l0_b x1 x3 g0 g1 (zf_Patches_hasAll_12_24_l0 x1 x3 g0 g1 n) x4 = some q := h
      unfold zf_Patches_hasAll_12_24_l0_b at h
      refine zv_ild hB zd134_3 rfl rfl ?_
      refine zv_ild hB zd134_5 rfl rfl ?_
      refine zv_cge hB zd134_6 rfl (fun hc1 => ?_) (fun hc1 => ?_)
      · rw [if_neg (Int.not_lt.mpr hc1)] at h
        have hq := Option.some.inj h
        subst hq
        refine zv_wk hB (L' := [.inr 1000, .inr 1000, .inr 1000, .inr 1000, .inr 1000, .inr 1000, .inr 1000]) (F' := []) ⟨fun h => (Nat.lt_irrefl 1000 h).elim, fun h => (Nat.lt_irrefl 1000 h).elim, fun h => (Nat.lt_irrefl 1000 h).elim, fun h => (Nat.lt_irrefl 1000 h).elim, fun h => (Nat.lt_irrefl 1000 h).elim, fun h => (Nat.lt_irrefl 1000 h).elim, fun h => (Nat.lt_irrefl 1000 h).elim, trivial⟩ trivial ?_
        exact hK
      · rw [if_pos hc1] at h
        refine zv_con hB zd134_9 rfl ?_
        refine zv_ist hB zd134_10 rfl rfl rfl ?_
        refine zv_con hB zd134_12 rfl ?_
        refine zv_ist hB zd134_13 rfl rfl rfl ?_
        obtain ⟨q7, hq7, h⟩ := zi_bind h
        refine l1 _ _ _ _ _ _ q7 hq7 ?_
        show good 50 [.inr 0, .inl x1, .inr 1, .inl x3, .inl x4, .inl q7, .inr 1000] [] [] [g0, g1]
        refine zv_ild hB zd134_50 rfl rfl ?_
        refine zv_zne hB zd134_52 rfl (fun hc8 => ?_) (fun hc8 => ?_)
        · rw [if_neg hc8] at h
          refine zv_iincw hB zd134_57 rfl rfl ?_
          refine zv_goto hB zd134_60 rfl ?_
          refine zv_wk hB (L' := [.inr 0, .inl x1, .inr 1, .inl x3, .inl (zi_w (x4 + 1)), .inr 1000, .inr 1000]) (F' := []) ⟨fun _ => rfl, fun _ => rfl, fun _ => rfl, fun _ => rfl, fun _ => rfl, fun h => (Nat.lt_irrefl 1000 h).elim, fun h => (Nat.lt_irrefl 1000 h).elim, trivial⟩ trivial ?_
          exact ih _ _ _ q h hK
        · rw [if_pos hc8] at h
          refine zv_con hB zd134_55 rfl ?_
          have hw : 0 = o := zi_rk (Option.some.inj h) hK
          subst hw
          exact hret _ _ _ _ _ zd134_56 (by constructor <;> decide) ⟨rfl, rfl, rfl⟩
  unfold zf_Patches_hasAll_12_24 at h
  refine zv_con hB zd134_0 rfl ?_
  refine zv_ist hB zd134_1 rfl rfl rfl ?_
  obtain ⟨q9, hq9, h⟩ := zi_bind h
  refine l0 _ _ _ _ q9 hq9 ?_
  rcases q9 with e10 | w11
  · replace h := zi_sl h
    show good 63 [.inr 1000, .inr 1000, .inr 1000, .inr 1000, .inr 1000, .inr 1000, .inr 1000] [] [] [g0, g1]
    refine zv_con hB zd134_63 rfl ?_
    have hw := Option.some.inj h
    subst hw
    exact hret _ _ _ _ _ zd134_64 (by constructor <;> decide) ⟨rfl, rfl, rfl⟩
  · exact Option.some.inj h
/-! Patches_isKnown (LStarTales$View;Z)Z -/
-- names: 0 Patches('arg', 0), 1 View('arg', 1), 2 (0, 24)(0, 10, 4), 3 Sky(0, 10, 6), 4 (0, 24)(3, 1, 1), 5 (0, 24)(3, 1, 2), 6 (0, 24)(3, 1, 3), 7 (0, 12)(0, 10, 2)
-- fields: f0 = 1.shown_, f1 = 1.x_, f2 = 1.y_, f3 = 3.hour_, f4 = 0.toldParts_; arrays: g0 = 2, g1 = 4, g2 = 5, g3 = 6, g4 = 7; out: [('ret', None), ('g', 0)]
abbrev zy_Patches_isKnown : zNL := (8, [(0, 10), (1, 7), (3, 1)], [(1, 7, 4, 0), (1, 7, 2, 1), (1, 7, 3, 2), (3, 1, 6, 3), (0, 10, 3, 4)], [(0, 10, 4, 2), (0, 10, 6, 3), (3, 1, 1, 4), (3, 1, 2, 5), (3, 1, 3, 6), (0, 10, 2, 7)], [(2, 0, 24, 0), (4, 0, 24, 1), (5, 0, 24, 2), (6, 0, 24, 3), (7, 0, 12, 4)])
theorem zyw_Patches_isKnown : zv_wf zy_Patches_isKnown = true := by decide +kernel
theorem zye_Patches_isKnown : zv_ek2 zy_Patches_isKnown = true := by decide +kernel
def zf_Patches_isKnown (x2 : Int) (f0 : Int) (f1 : Int) (f2 : Int) (f3 : Int) (f4 : Int) (g0 : (Int → Int)) (g1 : (Int → Int)) (g2 : (Int → Int)) (g3 : (Int → Int)) (g4 : (Int → Int)) : Option (Int × (Int → Int)) := (zf_X_placeOf f1 f2).bind fun r1 => ((zf_Patches_fillParts_24 f0 r1 f3 g0 g1 g2 g3).bind fun r2 => ((zf_Patches_hasAll_24_12 r2.1 f4 r2.2 g4).bind fun r3 => (if r3 = 0 then (some (0, r2.2)) else (if x2 = 0 then (some (1, r2.2)) else ((zf_Patches_hasAll_12_24 f4 r2.1 g4 r2.2).bind fun r6 => (if r6 = 0 then (some (0, r2.2)) else (some (1, r2.2))))))))
theorem zd139_0 : decode zxm139.2.1 0 = .ok (.aload_n 0, 1) := by decide +kernel
theorem zd139_1 : decode zxm139.2.1 1 = .ok (.aload_n 1, 1) := by decide +kernel
theorem zd139_2 : decode zxm139.2.1 2 = .ok (.getfield 49, 3) := by decide +kernel
theorem zd139_5 : decode zxm139.2.1 5 = .ok (.aload_n 1, 1) := by decide +kernel
theorem zd139_6 : decode zxm139.2.1 6 = .ok (.getfield 97, 3) := by decide +kernel
theorem zd139_9 : decode zxm139.2.1 9 = .ok (.aload_n 1, 1) := by decide +kernel
theorem zd139_10 : decode zxm139.2.1 10 = .ok (.getfield 100, 3) := by decide +kernel
theorem zd139_13 : decode zxm139.2.1 13 = .ok (.invokestatic 103, 3) := by decide +kernel
theorem zd139_16 : decode zxm139.2.1 16 = .ok (.aload_n 0, 1) := by decide +kernel
theorem zd139_17 : decode zxm139.2.1 17 = .ok (.getfield 26, 3) := by decide +kernel
theorem zd139_20 : decode zxm139.2.1 20 = .ok (.invokevirtual 52, 3) := by decide +kernel
theorem zd139_23 : decode zxm139.2.1 23 = .ok (.istore_n 3, 1) := by decide +kernel
theorem zd139_24 : decode zxm139.2.1 24 = .ok (.aload_n 0, 1) := by decide +kernel
theorem zd139_25 : decode zxm139.2.1 25 = .ok (.getfield 26, 3) := by decide +kernel
theorem zd139_28 : decode zxm139.2.1 28 = .ok (.iload_n 3, 1) := by decide +kernel
theorem zd139_29 : decode zxm139.2.1 29 = .ok (.aload_n 0, 1) := by decide +kernel
theorem zd139_30 : decode zxm139.2.1 30 = .ok (.getfield 19, 3) := by decide +kernel
theorem zd139_33 : decode zxm139.2.1 33 = .ok (.aload_n 0, 1) := by decide +kernel
theorem zd139_34 : decode zxm139.2.1 34 = .ok (.getfield 22, 3) := by decide +kernel
theorem zd139_37 : decode zxm139.2.1 37 = .ok (.invokestatic 85, 3) := by decide +kernel
theorem zd139_40 : decode zxm139.2.1 40 = .ok (.ifCond .eq 30, 3) := by decide +kernel
theorem zd139_43 : decode zxm139.2.1 43 = .ok (.iload_n 2, 1) := by decide +kernel
theorem zd139_44 : decode zxm139.2.1 44 = .ok (.ifCond .eq 22, 3) := by decide +kernel
theorem zd139_47 : decode zxm139.2.1 47 = .ok (.aload_n 0, 1) := by decide +kernel
theorem zd139_48 : decode zxm139.2.1 48 = .ok (.getfield 19, 3) := by decide +kernel
theorem zd139_51 : decode zxm139.2.1 51 = .ok (.aload_n 0, 1) := by decide +kernel
theorem zd139_52 : decode zxm139.2.1 52 = .ok (.getfield 22, 3) := by decide +kernel
theorem zd139_55 : decode zxm139.2.1 55 = .ok (.aload_n 0, 1) := by decide +kernel
theorem zd139_56 : decode zxm139.2.1 56 = .ok (.getfield 26, 3) := by decide +kernel
theorem zd139_59 : decode zxm139.2.1 59 = .ok (.iload_n 3, 1) := by decide +kernel
theorem zd139_60 : decode zxm139.2.1 60 = .ok (.invokestatic 85, 3) := by decide +kernel
theorem zd139_63 : decode zxm139.2.1 63 = .ok (.ifCond .eq 7, 3) := by decide +kernel
theorem zd139_66 : decode zxm139.2.1 66 = .ok (.iconst 1, 1) := by decide +kernel
theorem zd139_67 : decode zxm139.2.1 67 = .ok (.goto 4, 3) := by decide +kernel
theorem zd139_70 : decode zxm139.2.1 70 = .ok (.iconst 0, 1) := by decide +kernel
theorem zd139_71 : decode zxm139.2.1 71 = .ok (.ireturn, 1) := by decide +kernel
theorem zt_Patches_isKnown {x2 : Int} {f0 : Int} {f1 : Int} {f2 : Int} {f3 : Int} {f4 : Int} {g0 : (Int → Int)} {g1 : (Int → Int)} {g2 : (Int → Int)} {g3 : (Int → Int)} {g4 : (Int → Int)} {o : Int × (Int → Int)} (h : zf_Patches_isKnown x2 f0 f1 f2 f3 f4 g0 g1 g2 g3 g4 = some o) : zv_Fn z_TB z_cl z_KX zy_Patches_isKnown zxm139 (2, 120) [.inr 0, .inr 1, .inl x2] [.inl f0, .inl f1, .inl f2, .inl f3, .inl f4] [g0, g1, g2, g3, g4] (some o.1) [.inl f0, .inl f1, .inl f2, .inl f3, .inl f4] [o.2, g1, g2, g3, g4] := zv_meth (K := (z_KF5, z_KC5, z_KL5, z_KT5, [], [], [], none)) (FT := z_FT) (MT := z_MT) (n := 3) zxp139 (z_ks5 _ (fun _ h => List.mem_cons_of_mem _ h) _ _ _ _ (fun j r h _ => by cases h)) (fun _ _ => zs_KX_p) zyw_Patches_isKnown (fun va F G h => by obtain ⟨rfl, _⟩ := h; rfl) rfl fun good va F G hB hret hvret hP => by
  obtain ⟨rfl, rfl, rfl⟩ := hP
  unfold zf_Patches_isKnown at h
  refine zv_ald hB zd139_0 rfl rfl rfl ?_
  refine zv_ald hB zd139_1 rfl rfl rfl ?_
  refine zv_getf hB zd139_2 rfl rfl (fun _ _ => ?_)
  refine zv_ald hB zd139_5 rfl rfl rfl ?_
  refine zv_getf hB zd139_6 rfl rfl (fun _ _ => ?_)
  refine zv_ald hB zd139_9 rfl rfl rfl ?_
  refine zv_getf hB zd139_10 rfl rfl (fun _ _ => ?_)
  obtain ⟨r1, hr1, h⟩ := zi_bind h
  refine zv_cs hB (show zv_Fn _ _ _ zy_Patches_isKnown _ _ [.inl f1, .inl f2] [.inl f0, .inl f1, .inl f2, .inl f3, .inl f4] [g0, g1, g2, g3, g4] (some r1) [.inl f0, .inl f1, .inl f2, .inl f3, .inl f4] [g0, g1, g2, g3, g4] from zv_emb (F := [.inl f0, .inl f1, .inl f2, .inl f3, .inl f4]) (G := [g0, g1, g2, g3, g4]) zyw_X_placeOf zyw_Patches_isKnown zye_Patches_isKnown (by decide +kernel : zv_ek zy_X_placeOf zy_Patches_isKnown [] [] [] = true) (zt_X_placeOf hr1) trivial trivial) zd139_13 zxt24 rfl (by decide) (by decide) rfl ?_
  refine zv_ald hB zd139_16 rfl rfl rfl ?_
  refine zv_getr hB zd139_17 rfl ?_
  obtain ⟨r2, hr2, h⟩ := zi_bind h
  refine zv_cv hB (show zv_Fn _ _ _ zy_Patches_isKnown _ _ [.inr 0, .inl f0, .inl r1, .inr 2] [.inl f0, .inl f1, .inl f2, .inl f3, .inl f4] [g0, g1, g2, g3, g4] (some r2.1) [.inl f0, .inl f1, .inl f2, .inl f3, .inl f4] [r2.2, g1, g2, g3, g4] from zv_emb (F := [.inl f0, .inl f1, .inl f2, .inl f3, .inl f4]) (G := [g0, g1, g2, g3, g4]) zyw_Patches_fillParts_24 zyw_Patches_isKnown zye_Patches_isKnown (by decide +kernel : zv_ek zy_Patches_fillParts_24 zy_Patches_isKnown [0, 2, 3, 4, 5, 6] [3] [0, 1, 2, 3] = true) (zt_Patches_fillParts_24 hr2) ⟨⟨_, rfl, fun _ => rfl⟩, trivial⟩ ⟨rfl, rfl, rfl, rfl, trivial⟩) zd139_20 zxt128 rfl (by decide) (by decide) rfl ?_
  refine zv_ist hB zd139_23 rfl rfl rfl ?_
  refine zv_ald hB zd139_24 rfl rfl rfl ?_
  refine zv_getr hB zd139_25 rfl ?_
  refine zv_ild hB zd139_28 rfl rfl ?_
  refine zv_ald hB zd139_29 rfl rfl rfl ?_
  refine zv_getr hB zd139_30 rfl ?_
  refine zv_ald hB zd139_33 rfl rfl rfl ?_
  refine zv_getf hB zd139_34 rfl rfl (fun _ _ => ?_)
  obtain ⟨r3, hr3, h⟩ := zi_bind h
  refine zv_cs hB (show zv_Fn _ _ _ zy_Patches_isKnown _ _ [.inr 2, .inl r2.1, .inr 7, .inl f4] [.inl f0, .inl f1, .inl f2, .inl f3, .inl f4] [r2.2, g1, g2, g3, g4] (some r3) [.inl f0, .inl f1, .inl f2, .inl f3, .inl f4] [r2.2, g1, g2, g3, g4] from zv_emb (F := [.inl f0, .inl f1, .inl f2, .inl f3, .inl f4]) (G := [r2.2, g1, g2, g3, g4]) zyw_Patches_hasAll_24_12 zyw_Patches_isKnown zye_Patches_isKnown (by decide +kernel : zv_ek zy_Patches_hasAll_24_12 zy_Patches_isKnown [2, 7] [] [0, 4] = true) (zt_Patches_hasAll_24_12 hr3) trivial ⟨rfl, rfl, trivial⟩) zd139_37 zxt134 rfl (by decide) (by decide) rfl ?_
  refine zv_zeq hB zd139_40 rfl (fun hc4 => ?_) (fun hc4 => ?_)
  · rw [if_pos hc4] at h
    refine zv_con hB zd139_70 rfl ?_
    have hw := Option.some.inj h
    subst hw
    exact hret _ _ _ _ _ zd139_71 (by constructor <;> decide) ⟨rfl, rfl, rfl⟩
  · rw [if_neg hc4] at h
    refine zv_ild hB zd139_43 rfl rfl ?_
    refine zv_zeq hB zd139_44 rfl (fun hc5 => ?_) (fun hc5 => ?_)
    · rw [if_pos hc5] at h
      refine zv_con hB zd139_66 rfl ?_
      refine zv_goto hB zd139_67 rfl ?_
      have hw := Option.some.inj h
      subst hw
      exact hret _ _ _ _ _ zd139_71 (by constructor <;> decide) ⟨rfl, rfl, rfl⟩
    · rw [if_neg hc5] at h
      refine zv_ald hB zd139_47 rfl rfl rfl ?_
      refine zv_getr hB zd139_48 rfl ?_
      refine zv_ald hB zd139_51 rfl rfl rfl ?_
      refine zv_getf hB zd139_52 rfl rfl (fun _ _ => ?_)
      refine zv_ald hB zd139_55 rfl rfl rfl ?_
      refine zv_getr hB zd139_56 rfl ?_
      refine zv_ild hB zd139_59 rfl rfl ?_
      obtain ⟨r6, hr6, h⟩ := zi_bind h
      refine zv_cs hB (show zv_Fn _ _ _ zy_Patches_isKnown _ _ [.inr 7, .inl f4, .inr 2, .inl r2.1] [.inl f0, .inl f1, .inl f2, .inl f3, .inl f4] [r2.2, g1, g2, g3, g4] (some r6) [.inl f0, .inl f1, .inl f2, .inl f3, .inl f4] [r2.2, g1, g2, g3, g4] from zv_emb (F := [.inl f0, .inl f1, .inl f2, .inl f3, .inl f4]) (G := [r2.2, g1, g2, g3, g4]) zyw_Patches_hasAll_12_24 zyw_Patches_isKnown zye_Patches_isKnown (by decide +kernel : zv_ek zy_Patches_hasAll_12_24 zy_Patches_isKnown [7, 2] [] [4, 0] = true) (zt_Patches_hasAll_12_24 hr6) trivial ⟨rfl, rfl, trivial⟩) zd139_60 zxt134 rfl (by decide) (by decide) rfl ?_
      refine zv_zeq hB zd139_63 rfl (fun hc7 => ?_) (fun hc7 => ?_)
      · rw [if_pos hc7] at h
        refine zv_con hB zd139_70 rfl ?_
        have hw := Option.some.inj h
        subst hw
        exact hret _ _ _ _ _ zd139_71 (by constructor <;> decide) ⟨rfl, rfl, rfl⟩
      · rw [if_neg hc7] at h
        refine zv_con hB zd139_66 rfl ?_
        refine zv_goto hB zd139_67 rfl ?_
        have hw := Option.some.inj h
        subst hw
        exact hret _ _ _ _ _ zd139_71 (by constructor <;> decide) ⟨rfl, rfl, rfl⟩
