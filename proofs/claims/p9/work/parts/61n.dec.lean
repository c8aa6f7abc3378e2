/-! Methods as functions, and that they do what these do. -/
/-! Matcher_notIn (LStarTales$View;I)I -/
-- names: 0 View('arg', 0), 1 Sky(0, 7, 0), 2 (0, 24)(1, 1, 1)
-- fields: f0 = 0.shown_, f1 = 0.sky_, f2 = 1.hour_; arrays: g0 = 2; out: [('ret', None)]
abbrev zy_Matcher_notIn : zNL := (3, [(0, 7), (1, 1)], [(0, 7, 4, 0), (0, 7, 0, 1), (1, 1, 6, 2)], [(1, 1, 1, 2)], [(2, 0, 24, 0)])
theorem zyw_Matcher_notIn : zv_wf zy_Matcher_notIn = true := by decide +kernel
theorem zye_Matcher_notIn : zv_ek2 zy_Matcher_notIn = true := by decide +kernel
def zf_Matcher_notIn_l0_b (x1 : Int) (f0 : Int) (f2 : Int) (g0 : (Int → Int)) (rec : Int → Int → Option (Int)) (x2 : Int) (x3 : Int) : Option (Int) := if x3 < 24 then (if (zi_and (zi_shr f0 x3) 1) = 0 then (rec x2 (zi_w (x3 + 1))) else ((zf_Sky_standing x3 f2 g0).bind fun r3 => (if (zi_and (zi_shr x1 r3) 1) = 0 then (rec (zi_or x2 (zi_shl 1 x3)) (zi_w (x3 + 1))) else (rec x2 (zi_w (x3 + 1)))))) else (some x2)
def zf_Matcher_notIn_l0 (x1 : Int) (f0 : Int) (f2 : Int) (g0 : (Int → Int)) : Nat → Int → Int → Option (Int)
  | 0, _, _ => none
  | n + 1, x2, x3 => zf_Matcher_notIn_l0_b x1 f0 f2 g0 (zf_Matcher_notIn_l0 x1 f0 f2 g0 n) x2 x3
def zf_Matcher_notIn (x1 : Int) (f0 : Int) (f2 : Int) (g0 : (Int → Int)) : Option (Int) := (zf_Matcher_notIn_l0 x1 f0 f2 g0 zi_fu 0 0).bind fun q5 => (some q5)
theorem zd180_0 : decode zxm180.2.1 0 = .ok (.iconst 0, 1) := by decide +kernel
theorem zd180_1 : decode zxm180.2.1 1 = .ok (.istore_n 2, 1) := by decide +kernel
theorem zd180_2 : decode zxm180.2.1 2 = .ok (.iconst 0, 1) := by decide +kernel
theorem zd180_3 : decode zxm180.2.1 3 = .ok (.istore_n 3, 1) := by decide +kernel
theorem zd180_4 : decode zxm180.2.1 4 = .ok (.iload_n 3, 1) := by decide +kernel
theorem zd180_5 : decode zxm180.2.1 5 = .ok (.bipush 24, 2) := by decide +kernel
theorem zd180_7 : decode zxm180.2.1 7 = .ok (.if_icmp .ge 41, 3) := by decide +kernel
theorem zd180_10 : decode zxm180.2.1 10 = .ok (.aload_n 0, 1) := by decide +kernel
theorem zd180_11 : decode zxm180.2.1 11 = .ok (.getfield 107, 3) := by decide +kernel
theorem zd180_14 : decode zxm180.2.1 14 = .ok (.iload_n 3, 1) := by decide +kernel
theorem zd180_15 : decode zxm180.2.1 15 = .ok (.ishr, 1) := by decide +kernel
theorem zd180_16 : decode zxm180.2.1 16 = .ok (.iconst 1, 1) := by decide +kernel
theorem zd180_17 : decode zxm180.2.1 17 = .ok (.iand, 1) := by decide +kernel
theorem zd180_18 : decode zxm180.2.1 18 = .ok (.ifCond .eq 24, 3) := by decide +kernel
theorem zd180_21 : decode zxm180.2.1 21 = .ok (.iload_n 1, 1) := by decide +kernel
theorem zd180_22 : decode zxm180.2.1 22 = .ok (.aload_n 0, 1) := by decide +kernel
theorem zd180_23 : decode zxm180.2.1 23 = .ok (.getfield 99, 3) := by decide +kernel
theorem zd180_26 : decode zxm180.2.1 26 = .ok (.iload_n 3, 1) := by decide +kernel
theorem zd180_27 : decode zxm180.2.1 27 = .ok (.invokevirtual 110, 3) := by decide +kernel
theorem zd180_30 : decode zxm180.2.1 30 = .ok (.ishr, 1) := by decide +kernel
theorem zd180_31 : decode zxm180.2.1 31 = .ok (.iconst 1, 1) := by decide +kernel
theorem zd180_32 : decode zxm180.2.1 32 = .ok (.iand, 1) := by decide +kernel
theorem zd180_33 : decode zxm180.2.1 33 = .ok (.ifCond .ne 9, 3) := by decide +kernel
theorem zd180_36 : decode zxm180.2.1 36 = .ok (.iload_n 2, 1) := by decide +kernel
theorem zd180_37 : decode zxm180.2.1 37 = .ok (.iconst 1, 1) := by decide +kernel
theorem zd180_38 : decode zxm180.2.1 38 = .ok (.iload_n 3, 1) := by decide +kernel
theorem zd180_39 : decode zxm180.2.1 39 = .ok (.ishl, 1) := by decide +kernel
theorem zd180_40 : decode zxm180.2.1 40 = .ok (.ior, 1) := by decide +kernel
theorem zd180_41 : decode zxm180.2.1 41 = .ok (.istore_n 2, 1) := by decide +kernel
theorem zd180_42 : decode zxm180.2.1 42 = .ok (.iinc 3 1, 3) := by decide +kernel
theorem zd180_45 : decode zxm180.2.1 45 = .ok (.goto (-41), 3) := by decide +kernel
theorem zd180_48 : decode zxm180.2.1 48 = .ok (.iload_n 2, 1) := by decide +kernel
theorem zd180_49 : decode zxm180.2.1 49 = .ok (.ireturn, 1) := by decide +kernel
theorem zt_Matcher_notIn {x1 : Int} {f0 : Int} {f2 : Int} {g0 : (Int → Int)} {o : Int} (h : zf_Matcher_notIn x1 f0 f2 g0 = some o) : zv_Fn z_TB z_cl z_KX zy_Matcher_notIn zxm180 (1, 60) [.inr 0, .inl x1] [.inl f0, .inr 1, .inl f2] [g0] (some o) [.inl f0, .inr 1, .inl f2] [g0] := zv_meth (K := (z_KF4, z_KC4, z_KL4, z_KT4, [], [], [], none)) (FT := z_FT) (MT := z_MT) (n := 2) zxp180 (z_ks4 _ (fun _ h => List.mem_cons_of_mem _ h) _ _ _ _ (fun j r h _ => by cases h)) (fun _ _ => zs_KX_p) zyw_Matcher_notIn (fun va F G h => by obtain ⟨rfl, _⟩ := h; rfl) (fun va F G h => by obtain ⟨rfl, _⟩ := h; rfl) rfl fun good va F G hB hret hvret hP => by
  obtain ⟨rfl, rfl, rfl⟩ := hP
  have l0 : ∀ (n : Nat) (x1 : Int) (x2 : Int) (x3 : Int) (q : Int), zf_Matcher_notIn_l0 x1 f0 f2 g0 n x2 x3 = some q → (good 48 [.inr 1000, .inr 1000, .inl q, .inr 1000] [] [.inl f0, .inr 1, .inl f2] [g0]) → good 4 [.inr 0, .inl x1, .inl x2, .inl x3] [] [.inl f0, .inr 1, .inl f2] [g0] := by
    intro n
    induction n with
    | zero => intro x1 x2 x3 q h; exact absurd (show none = some q from h) (fun h => by cases h)
    | succ n ih =>
      intro x1 x2 x3 q h hK
      replace h : zf_Matcher_notIn_l0_b x1 f0 f2 g0 (zf_Matcher_notIn_l0 x1 f0 f2 g0 n) x2 x3 = some q := h
      unfold zf_Matcher_notIn_l0_b at h
      refine zv_ild hB zd180_4 rfl rfl ?_
      refine zv_con hB zd180_5 rfl ?_
      refine zv_cge hB zd180_7 rfl (fun hc1 => ?_) (fun hc1 => ?_)
      · rw [if_neg (Int.not_lt.mpr hc1)] at h
        have hq := Option.some.inj h
        subst hq
        refine zv_wk hB (L' := [.inr 1000, .inr 1000, .inl x2, .inr 1000]) (F' := [.inl f0, .inr 1, .inl f2]) ⟨fun (h : zv_is (.inr 1000)) => (Nat.lt_irrefl 1000 h).elim, fun (h : zv_is (.inr 1000)) => (Nat.lt_irrefl 1000 h).elim, fun _ => rfl, fun (h : zv_is (.inr 1000)) => (Nat.lt_irrefl 1000 h).elim, trivial⟩ ⟨fun _ => rfl, fun _ => rfl, fun _ => rfl, trivial⟩ ?_
        exact hK
      · rw [if_pos hc1] at h
        refine zv_ald hB zd180_10 rfl rfl rfl ?_
        refine zv_getf hB zd180_11 rfl rfl (fun _ _ => ?_)
        refine zv_ild hB zd180_14 rfl rfl ?_
        refine zv_shrw hB zd180_15 ?_
        refine zv_con hB zd180_16 rfl ?_
        refine zv_andw hB zd180_17 ?_
        refine zv_zeq hB zd180_18 rfl (fun hc2 => ?_) (fun hc2 => ?_)
        · rw [if_pos hc2] at h
          refine zv_iincw hB zd180_42 rfl rfl ?_
          refine zv_goto hB zd180_45 rfl ?_
          exact ih _ _ _ q h hK
        · rw [if_neg hc2] at h
          refine zv_ild hB zd180_21 rfl rfl ?_
          refine zv_ald hB zd180_22 rfl rfl rfl ?_
          refine zv_getq hB zd180_23 rfl rfl rfl ?_
          refine zv_ild hB zd180_26 rfl rfl ?_
          obtain ⟨r3, hr3, h⟩ := zi_bind h
          refine zv_cv hB (zv_emq (va2 := [.inr 1, .inl x3]) (F := [.inl f0, .inr 1, .inl f2]) (F' := [.inl f0, .inr 1, .inl f2]) (G := [g0]) (G' := [g0]) (ρ := [1, 2]) (φ := [2]) (ψ := [0]) [none, none, some 0] [some 0] zyw_Sky_standing zyw_Matcher_notIn zye_Matcher_notIn (by decide +kernel) (zt_Sky_standing hr3) ⟨⟨_, rfl, fun _ => rfl⟩, trivial⟩ ⟨rfl, trivial⟩ rfl rfl rfl rfl rfl rfl rfl) zd180_27 zxt82 rfl (by decide) (by decide) rfl ?_
          refine zv_shrw hB zd180_30 ?_
          refine zv_con hB zd180_31 rfl ?_
          refine zv_andw hB zd180_32 ?_
          refine zv_zne hB zd180_33 rfl (fun hc4 => ?_) (fun hc4 => ?_)
          · rw [if_neg hc4] at h
            refine zv_iincw hB zd180_42 rfl rfl ?_
            refine zv_goto hB zd180_45 rfl ?_
            exact ih _ _ _ q h hK
          · rw [if_pos hc4] at h
            refine zv_ild hB zd180_36 rfl rfl ?_
            refine zv_con hB zd180_37 rfl ?_
            refine zv_ild hB zd180_38 rfl rfl ?_
            refine zv_shlw hB zd180_39 ?_
            refine zv_orw hB zd180_40 ?_
            refine zv_ist hB zd180_41 rfl rfl rfl ?_
            refine zv_iincw hB zd180_42 rfl rfl ?_
            refine zv_goto hB zd180_45 rfl ?_
            exact ih _ _ _ q h hK
  unfold zf_Matcher_notIn at h
  refine zv_con hB zd180_0 rfl ?_
  refine zv_ist hB zd180_1 rfl rfl rfl ?_
  refine zv_con hB zd180_2 rfl ?_
  refine zv_ist hB zd180_3 rfl rfl rfl ?_
  obtain ⟨q5, hq5, h⟩ := zi_bind h
  refine l0 _ _ _ _ q5 hq5 ?_
  show good 48 [.inr 1000, .inr 1000, .inl q5, .inr 1000] [] [.inl f0, .inr 1, .inl f2] [g0]
  refine zv_ild hB zd180_48 rfl rfl ?_
  have hw := Option.some.inj h
  subst hw
  exact hret _ _ _ _ _ zd180_49 (by trivial) ⟨rfl, rfl, rfl⟩
/-! Matcher_columnsOfWay (LStarTales$Tale;LStarTales$Sky;)I -/
-- names: 0 Matcher('arg', 0), 1 Tale('arg', 1), 2 Sky('arg', 2), 3 (0, 8)(0, 8, 2), 4 (0, 24)(2, 1, 1)
-- fields: f0 = 1.names_, f1 = 2.hour_; arrays: g0 = 3, g1 = 4; out: [('ret', None)]
abbrev zy_Matcher_columnsOfWay : zNL := (5, [(0, 8), (1, 6), (2, 1)], [(1, 6, 1, 0), (2, 1, 6, 1)], [(0, 8, 2, 3), (2, 1, 1, 4)], [(3, 0, 8, 0), (4, 0, 24, 1)])
theorem zyw_Matcher_columnsOfWay : zv_wf zy_Matcher_columnsOfWay = true := by decide +kernel
theorem zye_Matcher_columnsOfWay : zv_ek2 zy_Matcher_columnsOfWay = true := by decide +kernel
def zf_Matcher_columnsOfWay_l0_b (f0 : Int) (f1 : Int) (g0 : (Int → Int)) (g1 : (Int → Int)) (rec : Int → Int → Option (Int)) (x3 : Int) (x4 : Int) : Option (Int) := if x4 < 8 then (if (zi_and (zi_shr f0 x4) 1) = 0 then (rec x3 (zi_w (x4 + 1))) else (cond (zi_ix x4 8) ((zf_Sky_standing (g0 x4) f1 g1).bind fun r4 => (rec (zi_or x3 (zi_shl 1 r4)) (zi_w (x4 + 1)))) none)) else (some x3)
def zf_Matcher_columnsOfWay_l0 (f0 : Int) (f1 : Int) (g0 : (Int → Int)) (g1 : (Int → Int)) : Nat → Int → Int → Option (Int)
  | 0, _, _ => none
  | n + 1, x3, x4 => zf_Matcher_columnsOfWay_l0_b f0 f1 g0 g1 (zf_Matcher_columnsOfWay_l0 f0 f1 g0 g1 n) x3 x4
def zf_Matcher_columnsOfWay (f0 : Int) (f1 : Int) (g0 : (Int → Int)) (g1 : (Int → Int)) : Option (Int) := (zf_Matcher_columnsOfWay_l0 f0 f1 g0 g1 zi_fu 0 0).bind fun q5 => (some q5)
theorem zd181_0 : decode zxm181.2.1 0 = .ok (.iconst 0, 1) := by decide +kernel
theorem zd181_1 : decode zxm181.2.1 1 = .ok (.istore_n 3, 1) := by decide +kernel
theorem zd181_2 : decode zxm181.2.1 2 = .ok (.iconst 0, 1) := by decide +kernel
theorem zd181_3 : decode zxm181.2.1 3 = .ok (.istore 4, 2) := by decide +kernel
theorem zd181_5 : decode zxm181.2.1 5 = .ok (.iload 4, 2) := by decide +kernel
theorem zd181_7 : decode zxm181.2.1 7 = .ok (.bipush 8, 2) := by decide +kernel
theorem zd181_9 : decode zxm181.2.1 9 = .ok (.if_icmp .ge 37, 3) := by decide +kernel
theorem zd181_12 : decode zxm181.2.1 12 = .ok (.aload_n 1, 1) := by decide +kernel
theorem zd181_13 : decode zxm181.2.1 13 = .ok (.getfield 41, 3) := by decide +kernel
theorem zd181_16 : decode zxm181.2.1 16 = .ok (.iload 4, 2) := by decide +kernel
theorem zd181_18 : decode zxm181.2.1 18 = .ok (.ishr, 1) := by decide +kernel
theorem zd181_19 : decode zxm181.2.1 19 = .ok (.iconst 1, 1) := by decide +kernel
theorem zd181_20 : decode zxm181.2.1 20 = .ok (.iand, 1) := by decide +kernel
theorem zd181_21 : decode zxm181.2.1 21 = .ok (.ifCond .eq 19, 3) := by decide +kernel
theorem zd181_24 : decode zxm181.2.1 24 = .ok (.iload_n 3, 1) := by decide +kernel
theorem zd181_25 : decode zxm181.2.1 25 = .ok (.iconst 1, 1) := by decide +kernel
theorem zd181_26 : decode zxm181.2.1 26 = .ok (.aload_n 2, 1) := by decide +kernel
theorem zd181_27 : decode zxm181.2.1 27 = .ok (.aload_n 0, 1) := by decide +kernel
theorem zd181_28 : decode zxm181.2.1 28 = .ok (.getfield 20, 3) := by decide +kernel
theorem zd181_31 : decode zxm181.2.1 31 = .ok (.iload 4, 2) := by decide +kernel
theorem zd181_33 : decode zxm181.2.1 33 = .ok (.iaload, 1) := by decide +kernel
theorem zd181_34 : decode zxm181.2.1 34 = .ok (.invokevirtual 110, 3) := by decide +kernel
theorem zd181_37 : decode zxm181.2.1 37 = .ok (.ishl, 1) := by decide +kernel
theorem zd181_38 : decode zxm181.2.1 38 = .ok (.ior, 1) := by decide +kernel
theorem zd181_39 : decode zxm181.2.1 39 = .ok (.istore_n 3, 1) := by decide +kernel
theorem zd181_40 : decode zxm181.2.1 40 = .ok (.iinc 4 1, 3) := by decide +kernel
theorem zd181_43 : decode zxm181.2.1 43 = .ok (.goto (-38), 3) := by decide +kernel
theorem zd181_46 : decode zxm181.2.1 46 = .ok (.iload_n 3, 1) := by decide +kernel
theorem zd181_47 : decode zxm181.2.1 47 = .ok (.ireturn, 1) := by decide +kernel
theorem zt_Matcher_columnsOfWay {f0 : Int} {f1 : Int} {g0 : (Int → Int)} {g1 : (Int → Int)} {o : Int} (h : zf_Matcher_columnsOfWay f0 f1 g0 g1 = some o) : zv_Fn z_TB z_cl z_KX zy_Matcher_columnsOfWay zxm181 (1, 60) [.inr 0, .inr 1, .inr 2] [.inl f0, .inl f1] [g0, g1] (some o) [.inl f0, .inl f1] [g0, g1] := zv_meth (K := (z_KF4, z_KC4, z_KL4, z_KT4, [], [], [], none)) (FT := z_FT) (MT := z_MT) (n := 3) zxp181 (z_ks4 _ (fun _ h => List.mem_cons_of_mem _ h) _ _ _ _ (fun j r h _ => by cases h)) (fun _ _ => zs_KX_p) zyw_Matcher_columnsOfWay (fun va F G h => by obtain ⟨rfl, _⟩ := h; rfl) (fun va F G h => by obtain ⟨rfl, _⟩ := h; rfl) rfl fun good va F G hB hret hvret hP => by
  obtain ⟨rfl, rfl, rfl⟩ := hP
  have l0 : ∀ (n : Nat) (x3 : Int) (x4 : Int) (q : Int), zf_Matcher_columnsOfWay_l0 f0 f1 g0 g1 n x3 x4 = some q → (good 46 [.inr 1000, .inr 1000, .inr 1000, .inl q, .inr 1000] [] [.inl f0, .inl f1] [g0, g1]) → good 5 [.inr 0, .inr 1, .inr 2, .inl x3, .inl x4] [] [.inl f0, .inl f1] [g0, g1] := by
    intro n
    induction n with
    | zero => intro x3 x4 q h; exact absurd (show none = some q from h) (fun h => by cases h)
    | succ n ih =>
      intro x3 x4 q h hK
      replace h : zf_Matcher_columnsOfWay_l0_b f0 f1 g0 g1 (zf_Matcher_columnsOfWay_l0 f0 f1 g0 g1 n) x3 x4 = some q := h
      unfold zf_Matcher_columnsOfWay_l0_b at h
      refine zv_ild hB zd181_5 rfl rfl ?_
      refine zv_con hB zd181_7 rfl ?_
      refine zv_cge hB zd181_9 rfl (fun hc1 => ?_) (fun hc1 => ?_)
      · rw [if_neg (Int.not_lt.mpr hc1)] at h
        have hq := Option.some.inj h
        subst hq
        refine zv_wk hB (L' := [.inr 1000, .inr 1000, .inr 1000, .inl x3, .inr 1000]) (F' := [.inl f0, .inl f1]) ⟨fun (h : zv_is (.inr 1000)) => (Nat.lt_irrefl 1000 h).elim, fun (h : zv_is (.inr 1000)) => (Nat.lt_irrefl 1000 h).elim, fun (h : zv_is (.inr 1000)) => (Nat.lt_irrefl 1000 h).elim, fun _ => rfl, fun (h : zv_is (.inr 1000)) => (Nat.lt_irrefl 1000 h).elim, trivial⟩ ⟨fun _ => rfl, fun _ => rfl, trivial⟩ ?_
        exact hK
      · rw [if_pos hc1] at h
        refine zv_ald hB zd181_12 rfl rfl rfl ?_
        refine zv_getf hB zd181_13 rfl rfl (fun _ _ => ?_)
        refine zv_ild hB zd181_16 rfl rfl ?_
        refine zv_shrw hB zd181_18 ?_
        refine zv_con hB zd181_19 rfl ?_
        refine zv_andw hB zd181_20 ?_
        refine zv_zeq hB zd181_21 rfl (fun hc2 => ?_) (fun hc2 => ?_)
        · rw [if_pos hc2] at h
          refine zv_iincw hB zd181_40 rfl rfl ?_
          refine zv_goto hB zd181_43 rfl ?_
          exact ih _ _ q h hK
        · rw [if_neg hc2] at h
          refine zv_ild hB zd181_24 rfl rfl ?_
          refine zv_con hB zd181_25 rfl ?_
          refine zv_ald hB zd181_26 rfl rfl rfl ?_
          refine zv_ald hB zd181_27 rfl rfl rfl ?_
          refine zv_getr hB zd181_28 rfl ?_
          refine zv_ild hB zd181_31 rfl rfl ?_
          obtain ⟨c3, h⟩ := zi_if h
          refine zv_iald hB zd181_33 rfl rfl (zi_ix_ok c3).1 (zi_ix_ok c3).2 (fun _ _ => ?_)
          obtain ⟨r4, hr4, h⟩ := zi_bind h
          refine zv_cv hB (zv_emq (va2 := [.inr 2, .inl (g0 x4)]) (F := [.inl f0, .inl f1]) (F' := [.inl f0, .inl f1]) (G := [g0, g1]) (G' := [g0, g1]) (ρ := [2, 4]) (φ := [1]) (ψ := [1]) [none, some 0] [none, some 0] zyw_Sky_standing zyw_Matcher_columnsOfWay zye_Matcher_columnsOfWay (by decide +kernel) (zt_Sky_standing hr4) ⟨⟨_, rfl, fun _ => rfl⟩, trivial⟩ ⟨rfl, trivial⟩ rfl rfl rfl rfl rfl rfl rfl) zd181_34 zxt82 rfl (by decide) (by decide) rfl ?_
          refine zv_shlw hB zd181_37 ?_
          refine zv_orw hB zd181_38 ?_
          refine zv_ist hB zd181_39 rfl rfl rfl ?_
          refine zv_iincw hB zd181_40 rfl rfl ?_
          refine zv_goto hB zd181_43 rfl ?_
          exact ih _ _ q h hK
  unfold zf_Matcher_columnsOfWay at h
  refine zv_con hB zd181_0 rfl ?_
  refine zv_ist hB zd181_1 rfl rfl rfl ?_
  refine zv_con hB zd181_2 rfl ?_
  refine zv_ist hB zd181_3 rfl rfl rfl ?_
  obtain ⟨q5, hq5, h⟩ := zi_bind h
  refine l0 _ _ _ q5 hq5 ?_
  show good 46 [.inr 1000, .inr 1000, .inr 1000, .inl q5, .inr 1000] [] [.inl f0, .inl f1] [g0, g1]
  refine zv_ild hB zd181_46 rfl rfl ?_
  have hw := Option.some.inj h
  subst hw
  exact hret _ _ _ _ _ zd181_47 (by trivial) ⟨rfl, rfl, rfl⟩
/-! Matcher_hide (LStarTales$Tale;LStarTales$View;II)V -/
-- names: 0 Matcher('arg', 0), 1 Tale('arg', 1), 2 View('arg', 2), 3 Sky(2, 7, 0), 4 (0, 24)(3, 1, 1), 5 (0, 24)(2, 7, 5), 6 (0, 72)(0, 8, 0), 7 (0, 8)(1, 6, 2), 8 (0, 24)(0, 8, 1), 9 (0, 8)(0, 8, 2)
-- fields: f0 = 0.fewest_, f1 = 2.sky_, f2 = 2.shown_, f3 = 3.hour_, f4 = 0.tale_, f5 = 0.joined_, f6 = 0.deadEnds_, f7 = 1.names_; arrays: g0 = 4, g1 = 5, g2 = 6, g3 = 7, g4 = 8, g5 = 9; out: [('f', 0), ('f', 6), ('g', 2), ('g', 4), ('g', 5)]
abbrev zy_Matcher_hide : zNL := (10, [(0, 8), (1, 6), (2, 7), (3, 1)], [(0, 8, 5, 0), (2, 7, 0, 1), (2, 7, 4, 2), (3, 1, 6, 3), (0, 8, 3, 4), (0, 8, 4, 5), (0, 8, 6, 6), (1, 6, 1, 7)], [(3, 1, 1, 4), (2, 7, 5, 5), (0, 8, 0, 6), (1, 6, 2, 7), (0, 8, 1, 8), (0, 8, 2, 9)], [(4, 0, 24, 0), (5, 0, 24, 1), (6, 0, 72, 2), (7, 0, 8, 3), (8, 0, 24, 4), (9, 0, 8, 5)])
theorem zyw_Matcher_hide : zv_wf zy_Matcher_hide = true := by decide +kernel
theorem zye_Matcher_hide : zv_ek2 zy_Matcher_hide = true := by decide +kernel
def zm_Matcher_hide_l0_b (rc : Nat → Int → Int → Int → Int → Int → Int → Int → (Int → Int) → (Int → Int) → (Int → Int) → (Int → Int) → (Int → Int) → (Int → Int) → Option (Int × Int × (Int → Int) × (Int → Int) × (Int → Int))) (x3 : Int) (x4 : Int) (x6 : Int) (f2 : Int) (f3 : Int) (f7 : Int) (g0 : (Int → Int)) (g1 : (Int → Int)) (g3 : (Int → Int)) (rec : Int → Int → Int → (Int → Int) → (Int → Int) → (Int → Int) → Option (Int × Int × (Int → Int) × (Int → Int) × (Int → Int))) (x7 : Int) (f0 : Int) (f6 : Int) (g2 : (Int → Int)) (g4 : (Int → Int)) (g5 : (Int → Int)) : Option (Int × Int × (Int → Int) × (Int → Int) × (Int → Int)) := if x7 < 24 then (if (zi_and (zi_shr x6 x7) 1) = 0 then (rec (zi_w (x7 + 1)) f0 f6 g2 g4 g5) else ((rc 0 (zi_or x3 (zi_shl 1 x7)) (zi_w (x4 - 1)) f0 f2 f3 f6 f7 g0 g1 g2 g3 g4 g5).bind fun r9 => (rec (zi_w (x7 + 1)) r9.1 r9.2.1 r9.2.2.1 r9.2.2.2.1 r9.2.2.2.2))) else (some (f0, f6, g2, g4, g5))
def zm_Matcher_hide_l0 (rc : Nat → Int → Int → Int → Int → Int → Int → Int → (Int → Int) → (Int → Int) → (Int → Int) → (Int → Int) → (Int → Int) → (Int → Int) → Option (Int × Int × (Int → Int) × (Int → Int) × (Int → Int))) (x3 : Int) (x4 : Int) (x6 : Int) (f2 : Int) (f3 : Int) (f7 : Int) (g0 : (Int → Int)) (g1 : (Int → Int)) (g3 : (Int → Int)) : Nat → Int → Int → Int → (Int → Int) → (Int → Int) → (Int → Int) → Option (Int × Int × (Int → Int) × (Int → Int) × (Int → Int))
  | 0, _, _, _, _, _, _ => none
  | n + 1, x7, f0, f6, g2, g4, g5 => zm_Matcher_hide_l0_b rc x3 x4 x6 f2 f3 f7 g0 g1 g3 (zm_Matcher_hide_l0 rc x3 x4 x6 f2 f3 f7 g0 g1 g3 n) x7 f0 f6 g2 g4 g5
def zm_Matcher_hide (rc : Nat → Int → Int → Int → Int → Int → Int → Int → (Int → Int) → (Int → Int) → (Int → Int) → (Int → Int) → (Int → Int) → (Int → Int) → Option (Int × Int × (Int → Int) × (Int → Int) × (Int → Int))) (x3 : Int) (x4 : Int) (f0 : Int) (f2 : Int) (f3 : Int) (f6 : Int) (f7 : Int) (g0 : (Int → Int)) (g1 : (Int → Int)) (g2 : (Int → Int)) (g3 : (Int → Int)) (g4 : (Int → Int)) (g5 : (Int → Int)) : Option (Int × Int × (Int → Int) × (Int → Int) × (Int → Int)) := if f0 = (-1) then ((zf_Matcher_notIn x3 f2 f3 g0).bind fun r2 => ((zf_Matcher_countWays_24 r2 1 f6 f7 g1 g2 g3 g4 g5).bind fun r3 => (if r3.1 = 0 then (some (x3, r3.2.1, r3.2.2.1, r3.2.2.2.1, r3.2.2.2.2)) else (if 0 < x4 then ((zf_Matcher_columnsOfWay f7 f3 r3.2.2.2.2 g0).bind fun r6 => ((zm_Matcher_hide_l0 rc x3 x4 r6 f2 f3 f7 g0 g1 g3 zi_fu 0 f0 r3.2.1 r3.2.2.1 r3.2.2.2.1 r3.2.2.2.2).bind fun q10 => (some (q10.1, q10.2.1, q10.2.2.1, q10.2.2.2.1, q10.2.2.2.2)))) else (some (f0, r3.2.1, r3.2.2.1, r3.2.2.2.1, r3.2.2.2.2)))))) else (if x3 < f0 then ((zf_Matcher_notIn x3 f2 f3 g0).bind fun r12 => ((zf_Matcher_countWays_24 r12 1 f6 f7 g1 g2 g3 g4 g5).bind fun r13 => (if r13.1 = 0 then (some (x3, r13.2.1, r13.2.2.1, r13.2.2.2.1, r13.2.2.2.2)) else (if 0 < x4 then ((zf_Matcher_columnsOfWay f7 f3 r13.2.2.2.2 g0).bind fun r16 => ((zm_Matcher_hide_l0 rc x3 x4 r16 f2 f3 f7 g0 g1 g3 zi_fu 0 f0 r13.2.1 r13.2.2.1 r13.2.2.2.1 r13.2.2.2.2).bind fun q17 => (some (q17.1, q17.2.1, q17.2.2.1, q17.2.2.2.1, q17.2.2.2.2)))) else (some (f0, r13.2.1, r13.2.2.1, r13.2.2.2.1, r13.2.2.2.2)))))) else (some (f0, f6, g2, g4, g5)))
theorem zd179_0 : decode zxm179.2.1 0 = .ok (.aload_n 0, 1) := by decide +kernel
theorem zd179_1 : decode zxm179.2.1 1 = .ok (.getfield 23, 3) := by decide +kernel
theorem zd179_4 : decode zxm179.2.1 4 = .ok (.iconst (-1), 1) := by decide +kernel
theorem zd179_5 : decode zxm179.2.1 5 = .ok (.if_icmp .eq 12, 3) := by decide +kernel
theorem zd179_8 : decode zxm179.2.1 8 = .ok (.iload_n 3, 1) := by decide +kernel
theorem zd179_9 : decode zxm179.2.1 9 = .ok (.aload_n 0, 1) := by decide +kernel
theorem zd179_10 : decode zxm179.2.1 10 = .ok (.getfield 23, 3) := by decide +kernel
theorem zd179_13 : decode zxm179.2.1 13 = .ok (.if_icmp .lt 4, 3) := by decide +kernel
theorem zd179_16 : decode zxm179.2.1 16 = .ok (.return_, 1) := by decide +kernel
theorem zd179_17 : decode zxm179.2.1 17 = .ok (.aload_n 2, 1) := by decide +kernel
theorem zd179_18 : decode zxm179.2.1 18 = .ok (.iload_n 3, 1) := by decide +kernel
theorem zd179_19 : decode zxm179.2.1 19 = .ok (.invokestatic 88, 3) := by decide +kernel
theorem zd179_22 : decode zxm179.2.1 22 = .ok (.istore 5, 2) := by decide +kernel
theorem zd179_24 : decode zxm179.2.1 24 = .ok (.aload_n 0, 1) := by decide +kernel
theorem zd179_25 : decode zxm179.2.1 25 = .ok (.aload_n 1, 1) := by decide +kernel
theorem zd179_26 : decode zxm179.2.1 26 = .ok (.iload 5, 2) := by decide +kernel
theorem zd179_28 : decode zxm179.2.1 28 = .ok (.aload_n 2, 1) := by decide +kernel
theorem zd179_29 : decode zxm179.2.1 29 = .ok (.getfield 92, 3) := by decide +kernel
theorem zd179_32 : decode zxm179.2.1 32 = .ok (.iconst 1, 1) := by decide +kernel
theorem zd179_33 : decode zxm179.2.1 33 = .ok (.invokevirtual 95, 3) := by decide +kernel
theorem zd179_36 : decode zxm179.2.1 36 = .ok (.ifCond .ne 9, 3) := by decide +kernel
theorem zd179_39 : decode zxm179.2.1 39 = .ok (.aload_n 0, 1) := by decide +kernel
theorem zd179_40 : decode zxm179.2.1 40 = .ok (.iload_n 3, 1) := by decide +kernel
theorem zd179_41 : decode zxm179.2.1 41 = .ok (.putfield 23, 3) := by decide +kernel
theorem zd179_44 : decode zxm179.2.1 44 = .ok (.return_, 1) := by decide +kernel
theorem zd179_45 : decode zxm179.2.1 45 = .ok (.iload 4, 2) := by decide +kernel
theorem zd179_47 : decode zxm179.2.1 47 = .ok (.ifCond .gt 4, 3) := by decide +kernel
theorem zd179_50 : decode zxm179.2.1 50 = .ok (.return_, 1) := by decide +kernel
theorem zd179_51 : decode zxm179.2.1 51 = .ok (.aload_n 0, 1) := by decide +kernel
theorem zd179_52 : decode zxm179.2.1 52 = .ok (.aload_n 1, 1) := by decide +kernel
theorem zd179_53 : decode zxm179.2.1 53 = .ok (.aload_n 2, 1) := by decide +kernel
theorem zd179_54 : decode zxm179.2.1 54 = .ok (.getfield 99, 3) := by decide +kernel
theorem zd179_57 : decode zxm179.2.1 57 = .ok (.invokevirtual 103, 3) := by decide +kernel
theorem zd179_60 : decode zxm179.2.1 60 = .ok (.istore 6, 2) := by decide +kernel
theorem zd179_62 : decode zxm179.2.1 62 = .ok (.iconst 0, 1) := by decide +kernel
theorem zd179_63 : decode zxm179.2.1 63 = .ok (.istore 7, 2) := by decide +kernel
theorem zd179_65 : decode zxm179.2.1 65 = .ok (.iload 7, 2) := by decide +kernel
theorem zd179_67 : decode zxm179.2.1 67 = .ok (.bipush 24, 2) := by decide +kernel
theorem zd179_69 : decode zxm179.2.1 69 = .ok (.if_icmp .ge 35, 3) := by decide +kernel
theorem zd179_72 : decode zxm179.2.1 72 = .ok (.iload 6, 2) := by decide +kernel
theorem zd179_74 : decode zxm179.2.1 74 = .ok (.iload 7, 2) := by decide +kernel
theorem zd179_76 : decode zxm179.2.1 76 = .ok (.ishr, 1) := by decide +kernel
theorem zd179_77 : decode zxm179.2.1 77 = .ok (.iconst 1, 1) := by decide +kernel
theorem zd179_78 : decode zxm179.2.1 78 = .ok (.iand, 1) := by decide +kernel
theorem zd179_79 : decode zxm179.2.1 79 = .ok (.ifCond .eq 19, 3) := by decide +kernel
theorem zd179_82 : decode zxm179.2.1 82 = .ok (.aload_n 0, 1) := by decide +kernel
theorem zd179_83 : decode zxm179.2.1 83 = .ok (.aload_n 1, 1) := by decide +kernel
theorem zd179_84 : decode zxm179.2.1 84 = .ok (.aload_n 2, 1) := by decide +kernel
theorem zd179_85 : decode zxm179.2.1 85 = .ok (.iload_n 3, 1) := by decide +kernel
theorem zd179_86 : decode zxm179.2.1 86 = .ok (.iconst 1, 1) := by decide +kernel
theorem zd179_87 : decode zxm179.2.1 87 = .ok (.iload 7, 2) := by decide +kernel
theorem zd179_89 : decode zxm179.2.1 89 = .ok (.ishl, 1) := by decide +kernel
theorem zd179_90 : decode zxm179.2.1 90 = .ok (.ior, 1) := by decide +kernel
theorem zd179_91 : decode zxm179.2.1 91 = .ok (.iload 4, 2) := by decide +kernel
theorem zd179_93 : decode zxm179.2.1 93 = .ok (.iconst 1, 1) := by decide +kernel
theorem zd179_94 : decode zxm179.2.1 94 = .ok (.isub, 1) := by decide +kernel
theorem zd179_95 : decode zxm179.2.1 95 = .ok (.invokevirtual 84, 3) := by decide +kernel
theorem zd179_98 : decode zxm179.2.1 98 = .ok (.iinc 7 1, 3) := by decide +kernel
theorem zd179_101 : decode zxm179.2.1 101 = .ok (.goto (-36), 3) := by decide +kernel
theorem zd179_104 : decode zxm179.2.1 104 = .ok (.return_, 1) := by decide +kernel
theorem zts_Matcher_hide {dp : Nat} {rc : Nat → Int → Int → Int → Int → Int → Int → Int → (Int → Int) → (Int → Int) → (Int → Int) → (Int → Int) → (Int → Int) → (Int → Int) → Option (Int × Int × (Int → Int) × (Int → Int) × (Int → Int))} (ih0 : ∀ (x3 : Int) (x4 : Int) (f0 : Int) (f2 : Int) (f3 : Int) (f6 : Int) (f7 : Int) (g0 : (Int → Int)) (g1 : (Int → Int)) (g2 : (Int → Int)) (g3 : (Int → Int)) (g4 : (Int → Int)) (g5 : (Int → Int)) (o : Int × Int × (Int → Int) × (Int → Int) × (Int → Int)), rc 0 x3 x4 f0 f2 f3 f6 f7 g0 g1 g2 g3 g4 g5 = some o → zv_Fn z_TB z_cl z_KX zy_Matcher_hide zxm179 (13 + dp, 60 * (13 + dp)) [.inr 0, .inr 1, .inr 2, .inl x3, .inl x4] [.inl f0, .inr 3, .inl f2, .inl f3, .inr 1000, .inr 1000, .inl f6, .inl f7] [g0, g1, g2, g3, g4, g5] none [.inl o.1, .inr 3, .inl f2, .inl f3, .inr 1000, .inr 1000, .inl o.2.1, .inl f7] [g0, g1, o.2.2.1, g3, o.2.2.2.1, o.2.2.2.2]) {x3 : Int} {x4 : Int} {f0 : Int} {f2 : Int} {f3 : Int} {f6 : Int} {f7 : Int} {g0 : (Int → Int)} {g1 : (Int → Int)} {g2 : (Int → Int)} {g3 : (Int → Int)} {g4 : (Int → Int)} {g5 : (Int → Int)} {o : Int × Int × (Int → Int) × (Int → Int) × (Int → Int)} (h : zm_Matcher_hide rc x3 x4 f0 f2 f3 f6 f7 g0 g1 g2 g3 g4 g5 = some o) : zv_Fn z_TB z_cl z_KX zy_Matcher_hide zxm179 (13 + (dp + 1), 60 * (13 + (dp + 1))) [.inr 0, .inr 1, .inr 2, .inl x3, .inl x4] [.inl f0, .inr 3, .inl f2, .inl f3, .inr 1000, .inr 1000, .inl f6, .inl f7] [g0, g1, g2, g3, g4, g5] none [.inl o.1, .inr 3, .inl f2, .inl f3, .inr 1000, .inr 1000, .inl o.2.1, .inl f7] [g0, g1, o.2.2.1, g3, o.2.2.2.1, o.2.2.2.2] := zv_meth (K := (z_KF4, z_KC4, z_KL4, z_KT4, [], [], [], none)) (FT := z_FT) (MT := z_MT) (n := 5) zxp179 (z_ks4 _ (fun _ h => List.mem_cons_of_mem _ h) _ _ _ _ (fun j r h _ => by cases h)) (fun _ _ => zs_KX_p) zyw_Matcher_hide (fun va F G h => by obtain ⟨rfl, _⟩ := h; rfl) (fun va F G h => by obtain ⟨rfl, _⟩ := h; rfl) rfl fun good va F G hB hret hvret hP => by
  obtain ⟨rfl, rfl, rfl⟩ := hP
  have l0 : ∀ (n : Nat) (x3 : Int) (x4 : Int) (x6 : Int) (x7 : Int) (f0 : Int) (f6 : Int) (g2 : (Int → Int)) (g4 : (Int → Int)) (g5 : (Int → Int)) (q : Int × Int × (Int → Int) × (Int → Int) × (Int → Int)), zm_Matcher_hide_l0 rc x3 x4 x6 f2 f3 f7 g0 g1 g3 n x7 f0 f6 g2 g4 g5 = some q → (good 104 [.inr 1000, .inr 1000, .inr 1000, .inr 1000, .inr 1000, .inr 1000, .inr 1000, .inr 1000] [] [.inl q.1, .inr 3, .inl f2, .inl f3, .inr 1000, .inr 1000, .inl q.2.1, .inl f7] [g0, g1, q.2.2.1, g3, q.2.2.2.1, q.2.2.2.2]) → good 65 [.inr 0, .inr 1, .inr 2, .inl x3, .inl x4, .inr 1000, .inl x6, .inl x7] [] [.inl f0, .inr 3, .inl f2, .inl f3, .inr 1000, .inr 1000, .inl f6, .inl f7] [g0, g1, g2, g3, g4, g5] := by
    intro n
    induction n with
    | zero => intro x3 x4 x6 x7 f0 f6 g2 g4 g5 q h; exact absurd (show none = some q from h) (fun h => by cases h)
    | succ n ih =>
      intro x3 x4 x6 x7 f0 f6 g2 g4 g5 q h hK
      replace h : zm_Matcher_hide_l0_b rc x3 x4 x6 f2 f3 f7 g0 g1 g3 (zm_Matcher_hide_l0 rc x3 x4 x6 f2 f3 f7 g0 g1 g3 n) x7 f0 f6 g2 g4 g5 = some q := h
      unfold zm_Matcher_hide_l0_b at h
      refine zv_ild hB zd179_65 rfl rfl ?_
      refine zv_con hB zd179_67 rfl ?_
      refine zv_cge hB zd179_69 rfl (fun hc7 => ?_) (fun hc7 => ?_)
      · rw [if_neg (Int.not_lt.mpr hc7)] at h
        have hq := Option.some.inj h
        subst hq
        refine zv_wk hB (L' := [.inr 1000, .inr 1000, .inr 1000, .inr 1000, .inr 1000, .inr 1000, .inr 1000, .inr 1000]) (F' := [.inl f0, .inr 3, .inl f2, .inl f3, .inr 1000, .inr 1000, .inl f6, .inl f7]) ⟨fun (h : zv_is (.inr 1000)) => (Nat.lt_irrefl 1000 h).elim, fun (h : zv_is (.inr 1000)) => (Nat.lt_irrefl 1000 h).elim, fun (h : zv_is (.inr 1000)) => (Nat.lt_irrefl 1000 h).elim, fun (h : zv_is (.inr 1000)) => (Nat.lt_irrefl 1000 h).elim, fun (h : zv_is (.inr 1000)) => (Nat.lt_irrefl 1000 h).elim, fun (h : zv_is (.inr 1000)) => (Nat.lt_irrefl 1000 h).elim, fun (h : zv_is (.inr 1000)) => (Nat.lt_irrefl 1000 h).elim, fun (h : zv_is (.inr 1000)) => (Nat.lt_irrefl 1000 h).elim, trivial⟩ ⟨fun _ => rfl, fun _ => rfl, fun _ => rfl, fun _ => rfl, fun (h : zv_is (.inr 1000)) => (Nat.lt_irrefl 1000 h).elim, fun (h : zv_is (.inr 1000)) => (Nat.lt_irrefl 1000 h).elim, fun _ => rfl, fun _ => rfl, trivial⟩ ?_
        exact hK
      · rw [if_pos hc7] at h
        refine zv_ild hB zd179_72 rfl rfl ?_
        refine zv_ild hB zd179_74 rfl rfl ?_
        refine zv_shrw hB zd179_76 ?_
        refine zv_con hB zd179_77 rfl ?_
        refine zv_andw hB zd179_78 ?_
        refine zv_zeq hB zd179_79 rfl (fun hc8 => ?_) (fun hc8 => ?_)
        · rw [if_pos hc8] at h
          refine zv_iincw hB zd179_98 rfl rfl ?_
          refine zv_goto hB zd179_101 rfl ?_
          exact ih _ _ _ _ _ _ _ _ _ q h hK
        · rw [if_neg hc8] at h
          refine zv_ald hB zd179_82 rfl rfl rfl ?_
          refine zv_ald hB zd179_83 rfl rfl rfl ?_
          refine zv_ald hB zd179_84 rfl rfl rfl ?_
          refine zv_ild hB zd179_85 rfl rfl ?_
          refine zv_con hB zd179_86 rfl ?_
          refine zv_ild hB zd179_87 rfl rfl ?_
          refine zv_shlw hB zd179_89 ?_
          refine zv_orw hB zd179_90 ?_
          refine zv_ild hB zd179_91 rfl rfl ?_
          refine zv_con hB zd179_93 rfl ?_
          refine zv_subw hB zd179_94 ?_
          obtain ⟨r9, hr9, h⟩ := zi_bind h
          refine zv_cv hB (show zv_Fn _ _ _ zy_Matcher_hide _ _ [.inr 0, .inr 1, .inr 2, .inl (zi_or x3 (zi_shl 1 x7)), .inl (zi_w (x4 - 1))] [.inl f0, .inr 3, .inl f2, .inl f3, .inr 1000, .inr 1000, .inl f6, .inl f7] [g0, g1, g2, g3, g4, g5] none [.inl r9.1, .inr 3, .inl f2, .inl f3, .inr 1000, .inr 1000, .inl r9.2.1, .inl f7] [g0, g1, r9.2.2.1, g3, r9.2.2.2.1, r9.2.2.2.2] from ih0 _ _ _ _ _ _ _ _ _ _ _ _ _ r9 hr9) zd179_95 zxt179 rfl (by show 13 + dp + 1 ≤ 13 + (dp + 1); omega) (by show 8 + (8 + 11) + 60 * (13 + dp) ≤ 60 * (13 + (dp + 1)); omega) rfl ?_
          refine zv_iincw hB zd179_98 rfl rfl ?_
          refine zv_goto hB zd179_101 rfl ?_
          exact ih _ _ _ _ _ _ _ _ _ q h hK
  unfold zm_Matcher_hide at h
  refine zv_ald hB zd179_0 rfl rfl rfl ?_
  refine zv_getf hB zd179_1 rfl rfl (fun _ _ => ?_)
  refine zv_con hB zd179_4 rfl ?_
  refine zv_ceq hB zd179_5 rfl (fun hc1 => ?_) (fun hc1 => ?_)
  · rw [if_pos hc1] at h
    refine zv_ald hB zd179_17 rfl rfl rfl ?_
    refine zv_ild hB zd179_18 rfl rfl ?_
    obtain ⟨r2, hr2, h⟩ := zi_bind h
    refine zv_cs hB (zv_emq (va2 := [.inr 2, .inl x3]) (F := [.inl f0, .inr 3, .inl f2, .inl f3, .inr 1000, .inr 1000, .inl f6, .inl f7]) (F' := [.inl f0, .inr 3, .inl f2, .inl f3, .inr 1000, .inr 1000, .inl f6, .inl f7]) (G := [g0, g1, g2, g3, g4, g5]) (G' := [g0, g1, g2, g3, g4, g5]) (ρ := [2, 3, 4]) (φ := [2, 1, 3]) (ψ := [0]) [none, some 1, some 0, some 2, none, none, none, none] [some 0, none, none, none, none, none] zyw_Matcher_notIn zyw_Matcher_hide zye_Matcher_hide (by decide +kernel) (zt_Matcher_notIn hr2) ⟨⟨_, rfl, fun _ => rfl⟩, ⟨_, rfl, fun _ => rfl⟩, ⟨_, rfl, fun _ => rfl⟩, trivial⟩ ⟨rfl, trivial⟩ rfl rfl rfl rfl rfl rfl rfl) zd179_19 zxt180 rfl (by show 1 + 1 ≤ 13 + (dp + 1); omega) (by show 8 + (4 + 11) + 60 * (1) ≤ 60 * (13 + (dp + 1)); omega) rfl ?_
    refine zv_ist hB zd179_22 rfl rfl rfl ?_
    refine zv_ald hB zd179_24 rfl rfl rfl ?_
    refine zv_ald hB zd179_25 rfl rfl rfl ?_
    refine zv_ild hB zd179_26 rfl rfl ?_
    refine zv_ald hB zd179_28 rfl rfl rfl ?_
    refine zv_getr hB zd179_29 rfl ?_
    refine zv_con hB zd179_32 rfl ?_
    obtain ⟨r3, hr3, h⟩ := zi_bind h
    refine zv_cv hB (zv_emq (va2 := [.inr 0, .inr 1, .inl r2, .inr 5, .inl 1]) (F := [.inl f0, .inr 3, .inl f2, .inl f3, .inr 1000, .inr 1000, .inl f6, .inl f7]) (F' := [.inl f0, .inr 3, .inl f2, .inl f3, .inr 1, .inr 5, .inl r3.2.1, .inl f7]) (G := [g0, g1, g2, g3, g4, g5]) (G' := [g0, g1, r3.2.2.1, g3, r3.2.2.2.1, r3.2.2.2.2]) (ρ := [0, 1, 5, 6, 7, 8, 9]) (φ := [4, 5, 6, 7]) (ψ := [1, 2, 3, 4, 5]) [none, none, none, none, some 0, some 1, some 2, some 3] [none, some 0, some 1, some 2, some 3, some 4] zyw_Matcher_countWays_24 zyw_Matcher_hide zye_Matcher_hide (by decide +kernel) (zt_Matcher_countWays_24 hr3) ⟨⟨_, rfl, fun (h : zv_is (.inr 1000)) => (Nat.lt_irrefl 1000 h).elim⟩, ⟨_, rfl, fun (h : zv_is (.inr 1000)) => (Nat.lt_irrefl 1000 h).elim⟩, ⟨_, rfl, fun _ => rfl⟩, ⟨_, rfl, fun _ => rfl⟩, trivial⟩ ⟨rfl, rfl, rfl, rfl, rfl, trivial⟩ rfl rfl rfl rfl rfl rfl rfl) zd179_33 zxt112 rfl (by show 12 + 1 ≤ 13 + (dp + 1); omega) (by show 8 + (5 + 11) + 60 * (12) ≤ 60 * (13 + (dp + 1)); omega) rfl ?_
    refine zv_zne hB zd179_36 rfl (fun hc4 => ?_) (fun hc4 => ?_)
    · rw [if_neg hc4] at h
      refine zv_ild hB zd179_45 rfl rfl ?_
      refine zv_zgt hB zd179_47 rfl (fun hc5 => ?_) (fun hc5 => ?_)
      · rw [if_pos hc5] at h
        refine zv_ald hB zd179_51 rfl rfl rfl ?_
        refine zv_ald hB zd179_52 rfl rfl rfl ?_
        refine zv_ald hB zd179_53 rfl rfl rfl ?_
        refine zv_getq hB zd179_54 rfl rfl rfl ?_
        obtain ⟨r6, hr6, h⟩ := zi_bind h
        refine zv_cv hB (zv_emq (va2 := [.inr 0, .inr 1, .inr 3]) (F := [.inl f0, .inr 3, .inl f2, .inl f3, .inr 1, .inr 5, .inl r3.2.1, .inl f7]) (F' := [.inl f0, .inr 3, .inl f2, .inl f3, .inr 1, .inr 5, .inl r3.2.1, .inl f7]) (G := [g0, g1, r3.2.2.1, g3, r3.2.2.2.1, r3.2.2.2.2]) (G' := [g0, g1, r3.2.2.1, g3, r3.2.2.2.1, r3.2.2.2.2]) (ρ := [0, 1, 3, 9, 4]) (φ := [7, 3]) (ψ := [5, 0]) [none, none, none, some 1, none, none, none, some 0] [some 1, none, none, none, none, some 0] zyw_Matcher_columnsOfWay zyw_Matcher_hide zye_Matcher_hide (by decide +kernel) (zt_Matcher_columnsOfWay hr6) ⟨⟨_, rfl, fun _ => rfl⟩, ⟨_, rfl, fun _ => rfl⟩, trivial⟩ ⟨rfl, rfl, trivial⟩ rfl rfl rfl rfl rfl rfl rfl) zd179_57 zxt181 rfl (by show 1 + 1 ≤ 13 + (dp + 1); omega) (by show 8 + (5 + 11) + 60 * (1) ≤ 60 * (13 + (dp + 1)); omega) rfl ?_
        refine zv_ist hB zd179_60 rfl rfl rfl ?_
        refine zv_con hB zd179_62 rfl ?_
        refine zv_ist hB zd179_63 rfl rfl rfl ?_
        obtain ⟨q10, hq10, h⟩ := zi_bind h
        refine zv_wk hB (L' := [.inr 0, .inr 1, .inr 2, .inl x3, .inl x4, .inr 1000, .inl r6, .inl 0]) (F' := [.inl f0, .inr 3, .inl f2, .inl f3, .inr 1000, .inr 1000, .inl r3.2.1, .inl f7]) ⟨fun _ => rfl, fun _ => rfl, fun _ => rfl, fun _ => rfl, fun _ => rfl, fun (h : zv_is (.inr 1000)) => (Nat.lt_irrefl 1000 h).elim, fun _ => rfl, fun _ => rfl, trivial⟩ ⟨fun _ => rfl, fun _ => rfl, fun _ => rfl, fun _ => rfl, fun (h : zv_is (.inr 1000)) => (Nat.lt_irrefl 1000 h).elim, fun (h : zv_is (.inr 1000)) => (Nat.lt_irrefl 1000 h).elim, fun _ => rfl, fun _ => rfl, trivial⟩ ?_
        refine l0 _ _ _ _ _ _ _ _ _ _ q10 hq10 ?_
        show good 104 [.inr 1000, .inr 1000, .inr 1000, .inr 1000, .inr 1000, .inr 1000, .inr 1000, .inr 1000] [] [.inl q10.1, .inr 3, .inl f2, .inl f3, .inr 1000, .inr 1000, .inl q10.2.1, .inl f7] [g0, g1, q10.2.2.1, g3, q10.2.2.2.1, q10.2.2.2.2]
        have hw := Option.some.inj h
        subst hw
        exact hvret _ _ _ _ zd179_104 trivial ⟨rfl, rfl, rfl⟩
      · rw [if_neg (Int.not_lt.mpr hc5)] at h
        have hw := Option.some.inj h
        refine zv_wk hB (L' := [.inr 0, .inr 1, .inr 2, .inl x3, .inl x4, .inl r2, .inr 1000, .inr 1000]) (F' := [.inl f0, .inr 3, .inl f2, .inl f3, .inr 1000, .inr 1000, .inl r3.2.1, .inl f7]) ⟨fun _ => rfl, fun _ => rfl, fun _ => rfl, fun _ => rfl, fun _ => rfl, fun _ => rfl, fun _ => rfl, fun _ => rfl, trivial⟩ ⟨fun _ => rfl, fun _ => rfl, fun _ => rfl, fun _ => rfl, fun (h : zv_is (.inr 1000)) => (Nat.lt_irrefl 1000 h).elim, fun (h : zv_is (.inr 1000)) => (Nat.lt_irrefl 1000 h).elim, fun _ => rfl, fun _ => rfl, trivial⟩ ?_
        subst hw
        exact hvret _ _ _ _ zd179_50 trivial ⟨rfl, rfl, rfl⟩
    · rw [if_pos hc4] at h
      refine zv_ald hB zd179_39 rfl rfl rfl ?_
      refine zv_ild hB zd179_40 rfl rfl ?_
      refine zv_putf hB zd179_41 rfl rfl (fun h => by cases h) rfl ?_
      have hw := Option.some.inj h
      refine zv_wk hB (L' := [.inr 0, .inr 1, .inr 2, .inl x3, .inl x4, .inl r2, .inr 1000, .inr 1000]) (F' := [.inl x3, .inr 3, .inl f2, .inl f3, .inr 1000, .inr 1000, .inl r3.2.1, .inl f7]) ⟨fun _ => rfl, fun _ => rfl, fun _ => rfl, fun _ => rfl, fun _ => rfl, fun _ => rfl, fun _ => rfl, fun _ => rfl, trivial⟩ ⟨fun _ => rfl, fun _ => rfl, fun _ => rfl, fun _ => rfl, fun (h : zv_is (.inr 1000)) => (Nat.lt_irrefl 1000 h).elim, fun (h : zv_is (.inr 1000)) => (Nat.lt_irrefl 1000 h).elim, fun _ => rfl, fun _ => rfl, trivial⟩ ?_
      subst hw
      exact hvret _ _ _ _ zd179_44 trivial ⟨rfl, rfl, rfl⟩
  · rw [if_neg hc1] at h
    refine zv_ild hB zd179_8 rfl rfl ?_
    refine zv_ald hB zd179_9 rfl rfl rfl ?_
    refine zv_getf hB zd179_10 rfl rfl (fun _ _ => ?_)
    refine zv_clt hB zd179_13 rfl (fun hc11 => ?_) (fun hc11 => ?_)
    · rw [if_pos hc11] at h
      refine zv_ald hB zd179_17 rfl rfl rfl ?_
      refine zv_ild hB zd179_18 rfl rfl ?_
      obtain ⟨r12, hr12, h⟩ := zi_bind h
      refine zv_cs hB (zv_emq (va2 := [.inr 2, .inl x3]) (F := [.inl f0, .inr 3, .inl f2, .inl f3, .inr 1000, .inr 1000, .inl f6, .inl f7]) (F' := [.inl f0, .inr 3, .inl f2, .inl f3, .inr 1000, .inr 1000, .inl f6, .inl f7]) (G := [g0, g1, g2, g3, g4, g5]) (G' := [g0, g1, g2, g3, g4, g5]) (ρ := [2, 3, 4]) (φ := [2, 1, 3]) (ψ := [0]) [none, some 1, some 0, some 2, none, none, none, none] [some 0, none, none, none, none, none] zyw_Matcher_notIn zyw_Matcher_hide zye_Matcher_hide (by decide +kernel) (zt_Matcher_notIn hr12) ⟨⟨_, rfl, fun _ => rfl⟩, ⟨_, rfl, fun _ => rfl⟩, ⟨_, rfl, fun _ => rfl⟩, trivial⟩ ⟨rfl, trivial⟩ rfl rfl rfl rfl rfl rfl rfl) zd179_19 zxt180 rfl (by show 1 + 1 ≤ 13 + (dp + 1); omega) (by show 8 + (4 + 11) + 60 * (1) ≤ 60 * (13 + (dp + 1)); omega) rfl ?_
      refine zv_ist hB zd179_22 rfl rfl rfl ?_
      refine zv_ald hB zd179_24 rfl rfl rfl ?_
      refine zv_ald hB zd179_25 rfl rfl rfl ?_
      refine zv_ild hB zd179_26 rfl rfl ?_
      refine zv_ald hB zd179_28 rfl rfl rfl ?_
      refine zv_getr hB zd179_29 rfl ?_
      refine zv_con hB zd179_32 rfl ?_
      obtain ⟨r13, hr13, h⟩ := zi_bind h
      refine zv_cv hB (zv_emq (va2 := [.inr 0, .inr 1, .inl r12, .inr 5, .inl 1]) (F := [.inl f0, .inr 3, .inl f2, .inl f3, .inr 1000, .inr 1000, .inl f6, .inl f7]) (F' := [.inl f0, .inr 3, .inl f2, .inl f3, .inr 1, .inr 5, .inl r13.2.1, .inl f7]) (G := [g0, g1, g2, g3, g4, g5]) (G' := [g0, g1, r13.2.2.1, g3, r13.2.2.2.1, r13.2.2.2.2]) (ρ := [0, 1, 5, 6, 7, 8, 9]) (φ := [4, 5, 6, 7]) (ψ := [1, 2, 3, 4, 5]) [none, none, none, none, some 0, some 1, some 2, some 3] [none, some 0, some 1, some 2, some 3, some 4] zyw_Matcher_countWays_24 zyw_Matcher_hide zye_Matcher_hide (by decide +kernel) (zt_Matcher_countWays_24 hr13) ⟨⟨_, rfl, fun (h : zv_is (.inr 1000)) => (Nat.lt_irrefl 1000 h).elim⟩, ⟨_, rfl, fun (h : zv_is (.inr 1000)) => (Nat.lt_irrefl 1000 h).elim⟩, ⟨_, rfl, fun _ => rfl⟩, ⟨_, rfl, fun _ => rfl⟩, trivial⟩ ⟨rfl, rfl, rfl, rfl, rfl, trivial⟩ rfl rfl rfl rfl rfl rfl rfl) zd179_33 zxt112 rfl (by show 12 + 1 ≤ 13 + (dp + 1); omega) (by show 8 + (5 + 11) + 60 * (12) ≤ 60 * (13 + (dp + 1)); omega) rfl ?_
      refine zv_zne hB zd179_36 rfl (fun hc14 => ?_) (fun hc14 => ?_)
      · rw [if_neg hc14] at h
        refine zv_ild hB zd179_45 rfl rfl ?_
        refine zv_zgt hB zd179_47 rfl (fun hc15 => ?_) (fun hc15 => ?_)
        · rw [if_pos hc15] at h
          refine zv_ald hB zd179_51 rfl rfl rfl ?_
          refine zv_ald hB zd179_52 rfl rfl rfl ?_
          refine zv_ald hB zd179_53 rfl rfl rfl ?_
          refine zv_getq hB zd179_54 rfl rfl rfl ?_
          obtain ⟨r16, hr16, h⟩ := zi_bind h
          refine zv_cv hB (zv_emq (va2 := [.inr 0, .inr 1, .inr 3]) (F := [.inl f0, .inr 3, .inl f2, .inl f3, .inr 1, .inr 5, .inl r13.2.1, .inl f7]) (F' := [.inl f0, .inr 3, .inl f2, .inl f3, .inr 1, .inr 5, .inl r13.2.1, .inl f7]) (G := [g0, g1, r13.2.2.1, g3, r13.2.2.2.1, r13.2.2.2.2]) (G' := [g0, g1, r13.2.2.1, g3, r13.2.2.2.1, r13.2.2.2.2]) (ρ := [0, 1, 3, 9, 4]) (φ := [7, 3]) (ψ := [5, 0]) [none, none, none, some 1, none, none, none, some 0] [some 1, none, none, none, none, some 0] zyw_Matcher_columnsOfWay zyw_Matcher_hide zye_Matcher_hide (by decide +kernel) (zt_Matcher_columnsOfWay hr16) ⟨⟨_, rfl, fun _ => rfl⟩, ⟨_, rfl, fun _ => rfl⟩, trivial⟩ ⟨rfl, rfl, trivial⟩ rfl rfl rfl rfl rfl rfl rfl) zd179_57 zxt181 rfl (by show 1 + 1 ≤ 13 + (dp + 1); omega) (by show 8 + (5 + 11) + 60 * (1) ≤ 60 * (13 + (dp + 1)); omega) rfl ?_
          refine zv_ist hB zd179_60 rfl rfl rfl ?_
          refine zv_con hB zd179_62 rfl ?_
          refine zv_ist hB zd179_63 rfl rfl rfl ?_
          obtain ⟨q17, hq17, h⟩ := zi_bind h
          refine zv_wk hB (L' := [.inr 0, .inr 1, .inr 2, .inl x3, .inl x4, .inr 1000, .inl r16, .inl 0]) (F' := [.inl f0, .inr 3, .inl f2, .inl f3, .inr 1000, .inr 1000, .inl r13.2.1, .inl f7]) ⟨fun _ => rfl, fun _ => rfl, fun _ => rfl, fun _ => rfl, fun _ => rfl, fun (h : zv_is (.inr 1000)) => (Nat.lt_irrefl 1000 h).elim, fun _ => rfl, fun _ => rfl, trivial⟩ ⟨fun _ => rfl, fun _ => rfl, fun _ => rfl, fun _ => rfl, fun (h : zv_is (.inr 1000)) => (Nat.lt_irrefl 1000 h).elim, fun (h : zv_is (.inr 1000)) => (Nat.lt_irrefl 1000 h).elim, fun _ => rfl, fun _ => rfl, trivial⟩ ?_
          refine l0 _ _ _ _ _ _ _ _ _ _ q17 hq17 ?_
          show good 104 [.inr 1000, .inr 1000, .inr 1000, .inr 1000, .inr 1000, .inr 1000, .inr 1000, .inr 1000] [] [.inl q17.1, .inr 3, .inl f2, .inl f3, .inr 1000, .inr 1000, .inl q17.2.1, .inl f7] [g0, g1, q17.2.2.1, g3, q17.2.2.2.1, q17.2.2.2.2]
          have hw := Option.some.inj h
          subst hw
          exact hvret _ _ _ _ zd179_104 trivial ⟨rfl, rfl, rfl⟩
        · rw [if_neg (Int.not_lt.mpr hc15)] at h
          have hw := Option.some.inj h
          refine zv_wk hB (L' := [.inr 0, .inr 1, .inr 2, .inl x3, .inl x4, .inl r12, .inr 1000, .inr 1000]) (F' := [.inl f0, .inr 3, .inl f2, .inl f3, .inr 1000, .inr 1000, .inl r13.2.1, .inl f7]) ⟨fun _ => rfl, fun _ => rfl, fun _ => rfl, fun _ => rfl, fun _ => rfl, fun _ => rfl, fun _ => rfl, fun _ => rfl, trivial⟩ ⟨fun _ => rfl, fun _ => rfl, fun _ => rfl, fun _ => rfl, fun (h : zv_is (.inr 1000)) => (Nat.lt_irrefl 1000 h).elim, fun (h : zv_is (.inr 1000)) => (Nat.lt_irrefl 1000 h).elim, fun _ => rfl, fun _ => rfl, trivial⟩ ?_
          subst hw
          exact hvret _ _ _ _ zd179_50 trivial ⟨rfl, rfl, rfl⟩
      · rw [if_pos hc14] at h
        refine zv_ald hB zd179_39 rfl rfl rfl ?_
        refine zv_ild hB zd179_40 rfl rfl ?_
        refine zv_putf hB zd179_41 rfl rfl (fun h => by cases h) rfl ?_
        have hw := Option.some.inj h
        refine zv_wk hB (L' := [.inr 0, .inr 1, .inr 2, .inl x3, .inl x4, .inl r12, .inr 1000, .inr 1000]) (F' := [.inl x3, .inr 3, .inl f2, .inl f3, .inr 1000, .inr 1000, .inl r13.2.1, .inl f7]) ⟨fun _ => rfl, fun _ => rfl, fun _ => rfl, fun _ => rfl, fun _ => rfl, fun _ => rfl, fun _ => rfl, fun _ => rfl, trivial⟩ ⟨fun _ => rfl, fun _ => rfl, fun _ => rfl, fun _ => rfl, fun (h : zv_is (.inr 1000)) => (Nat.lt_irrefl 1000 h).elim, fun (h : zv_is (.inr 1000)) => (Nat.lt_irrefl 1000 h).elim, fun _ => rfl, fun _ => rfl, trivial⟩ ?_
        subst hw
        exact hvret _ _ _ _ zd179_44 trivial ⟨rfl, rfl, rfl⟩
    · rw [if_neg (Int.not_lt.mpr hc11)] at h
      have hw := Option.some.inj h
      subst hw
      exact hvret _ _ _ _ zd179_16 trivial ⟨rfl, rfl, rfl⟩
def zg_Matcher_hide : Nat → Nat → Int → Int → Int → Int → Int → Int → Int → (Int → Int) → (Int → Int) → (Int → Int) → (Int → Int) → (Int → Int) → (Int → Int) → Option (Int × Int × (Int → Int) × (Int → Int) × (Int → Int))
  | 0, _, _, _, _, _, _, _, _, _, _, _, _, _, _ => none
  | n + 1, _, x3, x4, f0, f2, f3, f6, f7, g0, g1, g2, g3, g4, g5 => zm_Matcher_hide (zg_Matcher_hide n) x3 x4 f0 f2 f3 f6 f7 g0 g1 g2 g3 g4 g5
theorem ztg_Matcher_hide : ∀ n : Nat, (∀ (x3 : Int) (x4 : Int) (f0 : Int) (f2 : Int) (f3 : Int) (f6 : Int) (f7 : Int) (g0 : (Int → Int)) (g1 : (Int → Int)) (g2 : (Int → Int)) (g3 : (Int → Int)) (g4 : (Int → Int)) (g5 : (Int → Int)) (o : Int × Int × (Int → Int) × (Int → Int) × (Int → Int)), zg_Matcher_hide n 0 x3 x4 f0 f2 f3 f6 f7 g0 g1 g2 g3 g4 g5 = some o → zv_Fn z_TB z_cl z_KX zy_Matcher_hide zxm179 (13 + n, 60 * (13 + n)) [.inr 0, .inr 1, .inr 2, .inl x3, .inl x4] [.inl f0, .inr 3, .inl f2, .inl f3, .inr 1000, .inr 1000, .inl f6, .inl f7] [g0, g1, g2, g3, g4, g5] none [.inl o.1, .inr 3, .inl f2, .inl f3, .inr 1000, .inr 1000, .inl o.2.1, .inl f7] [g0, g1, o.2.2.1, g3, o.2.2.2.1, o.2.2.2.2]) := by
  intro n
  induction n with
  | zero => exact fun _ _ _ _ _ _ _ _ _ _ _ _ _ o h => absurd (show none = some o from h) (fun h => by cases h)
  | succ n ih =>
    have ih0 := ih
    exact fun _ _ _ _ _ _ _ _ _ _ _ _ _ o h => zts_Matcher_hide (rc := zg_Matcher_hide n) ih0 h
def zf_Matcher_hide (x3 : Int) (x4 : Int) (f0 : Int) (f2 : Int) (f3 : Int) (f6 : Int) (f7 : Int) (g0 : (Int → Int)) (g1 : (Int → Int)) (g2 : (Int → Int)) (g3 : (Int → Int)) (g4 : (Int → Int)) (g5 : (Int → Int)) : Option (Int × Int × (Int → Int) × (Int → Int) × (Int → Int)) := zg_Matcher_hide 6 0 x3 x4 f0 f2 f3 f6 f7 g0 g1 g2 g3 g4 g5
theorem zt_Matcher_hide {x3 : Int} {x4 : Int} {f0 : Int} {f2 : Int} {f3 : Int} {f6 : Int} {f7 : Int} {g0 : (Int → Int)} {g1 : (Int → Int)} {g2 : (Int → Int)} {g3 : (Int → Int)} {g4 : (Int → Int)} {g5 : (Int → Int)} {o : Int × Int × (Int → Int) × (Int → Int) × (Int → Int)} (h : zf_Matcher_hide x3 x4 f0 f2 f3 f6 f7 g0 g1 g2 g3 g4 g5 = some o) : zv_Fn z_TB z_cl z_KX zy_Matcher_hide zxm179 (19, 1140) [.inr 0, .inr 1, .inr 2, .inl x3, .inl x4] [.inl f0, .inr 3, .inl f2, .inl f3, .inr 1000, .inr 1000, .inl f6, .inl f7] [g0, g1, g2, g3, g4, g5] none [.inl o.1, .inr 3, .inl f2, .inl f3, .inr 1000, .inr 1000, .inl o.2.1, .inl f7] [g0, g1, o.2.2.1, g3, o.2.2.2.1, o.2.2.2.2] := (ztg_Matcher_hide 6) _ _ _ _ _ _ _ _ _ _ _ _ _ o h
/-! Matcher_fewestColumns (LStarTales$Tale;LStarTales$View;)I -/
-- names: 0 Matcher('arg', 0), 1 Tale('arg', 1), 2 View('arg', 2), 3 Sky(2, 7, 0), 4 (0, 24)(3, 1, 1), 5 (0, 24)(2, 7, 5), 6 (0, 72)(0, 8, 0), 7 (0, 8)(1, 6, 2), 8 (0, 24)(0, 8, 1), 9 (0, 8)(0, 8, 2)
-- fields: f0 = 0.fewest_, f1 = 2.sky_, f2 = 2.shown_, f3 = 3.hour_, f4 = 0.tale_, f5 = 0.joined_, f6 = 0.deadEnds_, f7 = 1.names_; arrays: g0 = 4, g1 = 5, g2 = 6, g3 = 7, g4 = 8, g5 = 9; out: [('ret', None), ('f', 0), ('f', 6), ('g', 2), ('g', 4), ('g', 5)]
abbrev zy_Matcher_fewestColumns : zNL := (10, [(0, 8), (1, 6), (2, 7), (3, 1)], [(0, 8, 5, 0), (2, 7, 0, 1), (2, 7, 4, 2), (3, 1, 6, 3), (0, 8, 3, 4), (0, 8, 4, 5), (0, 8, 6, 6), (1, 6, 1, 7)], [(3, 1, 1, 4), (2, 7, 5, 5), (0, 8, 0, 6), (1, 6, 2, 7), (0, 8, 1, 8), (0, 8, 2, 9)], [(4, 0, 24, 0), (5, 0, 24, 1), (6, 0, 72, 2), (7, 0, 8, 3), (8, 0, 24, 4), (9, 0, 8, 5)])
theorem zyw_Matcher_fewestColumns : zv_wf zy_Matcher_fewestColumns = true := by decide +kernel
theorem zye_Matcher_fewestColumns : zv_ek2 zy_Matcher_fewestColumns = true := by decide +kernel
def zf_Matcher_fewestColumns_l0_b (f2 : Int) (f3 : Int) (f7 : Int) (g0 : (Int → Int)) (g1 : (Int → Int)) (g3 : (Int → Int)) (rec : Int → Int → Int → (Int → Int) → (Int → Int) → (Int → Int) → Option (Int × Int × (Int → Int) × (Int → Int) × (Int → Int))) (x3 : Int) (f0 : Int) (f6 : Int) (g2 : (Int → Int)) (g4 : (Int → Int)) (g5 : (Int → Int)) : Option (Int × Int × (Int → Int) × (Int → Int) × (Int → Int)) := if 4 < x3 then (some (f0, f6, g2, g4, g5)) else (if f0 = (-1) then ((zf_Matcher_hide 0 x3 f0 f2 f3 f6 f7 g0 g1 g2 g3 g4 g5).bind fun r3 => (rec (zi_w (x3 + 1)) r3.1 r3.2.1 r3.2.2.1 r3.2.2.2.1 r3.2.2.2.2)) else (some (f0, f6, g2, g4, g5)))
def zf_Matcher_fewestColumns_l0 (f2 : Int) (f3 : Int) (f7 : Int) (g0 : (Int → Int)) (g1 : (Int → Int)) (g3 : (Int → Int)) : Nat → Int → Int → Int → (Int → Int) → (Int → Int) → (Int → Int) → Option (Int × Int × (Int → Int) × (Int → Int) × (Int → Int))
  | 0, _, _, _, _, _, _ => none
  | n + 1, x3, f0, f6, g2, g4, g5 => zf_Matcher_fewestColumns_l0_b f2 f3 f7 g0 g1 g3 (zf_Matcher_fewestColumns_l0 f2 f3 f7 g0 g1 g3 n) x3 f0 f6 g2 g4 g5
def zf_Matcher_fewestColumns (f0 : Int) (f2 : Int) (f3 : Int) (f6 : Int) (f7 : Int) (g0 : (Int → Int)) (g1 : (Int → Int)) (g2 : (Int → Int)) (g3 : (Int → Int)) (g4 : (Int → Int)) (g5 : (Int → Int)) : Option (Int × Int × Int × (Int → Int) × (Int → Int) × (Int → Int)) := (zf_Matcher_fewestColumns_l0 f2 f3 f7 g0 g1 g3 zi_fu 1 (-1) f6 g2 g4 g5).bind fun q4 => (some (q4.1, q4.1, q4.2.1, q4.2.2.1, q4.2.2.2.1, q4.2.2.2.2))
theorem zd178_0 : decode zxm178.2.1 0 = .ok (.aload_n 0, 1) := by decide +kernel
theorem zd178_1 : decode zxm178.2.1 1 = .ok (.iconst (-1), 1) := by decide +kernel
theorem zd178_2 : decode zxm178.2.1 2 = .ok (.putfield 23, 3) := by decide +kernel
theorem zd178_5 : decode zxm178.2.1 5 = .ok (.iconst 1, 1) := by decide +kernel
theorem zd178_6 : decode zxm178.2.1 6 = .ok (.istore_n 3, 1) := by decide +kernel
theorem zd178_7 : decode zxm178.2.1 7 = .ok (.iload_n 3, 1) := by decide +kernel
theorem zd178_8 : decode zxm178.2.1 8 = .ok (.iconst 4, 1) := by decide +kernel
theorem zd178_9 : decode zxm178.2.1 9 = .ok (.if_icmp .gt 25, 3) := by decide +kernel
theorem zd178_12 : decode zxm178.2.1 12 = .ok (.aload_n 0, 1) := by decide +kernel
theorem zd178_13 : decode zxm178.2.1 13 = .ok (.getfield 23, 3) := by decide +kernel
theorem zd178_16 : decode zxm178.2.1 16 = .ok (.iconst (-1), 1) := by decide +kernel
theorem zd178_17 : decode zxm178.2.1 17 = .ok (.if_icmp .ne 17, 3) := by decide +kernel
theorem zd178_20 : decode zxm178.2.1 20 = .ok (.aload_n 0, 1) := by decide +kernel
theorem zd178_21 : decode zxm178.2.1 21 = .ok (.aload_n 1, 1) := by decide +kernel
theorem zd178_22 : decode zxm178.2.1 22 = .ok (.aload_n 2, 1) := by decide +kernel
theorem zd178_23 : decode zxm178.2.1 23 = .ok (.iconst 0, 1) := by decide +kernel
theorem zd178_24 : decode zxm178.2.1 24 = .ok (.iload_n 3, 1) := by decide +kernel
theorem zd178_25 : decode zxm178.2.1 25 = .ok (.invokevirtual 84, 3) := by decide +kernel
theorem zd178_28 : decode zxm178.2.1 28 = .ok (.iinc 3 1, 3) := by decide +kernel
theorem zd178_31 : decode zxm178.2.1 31 = .ok (.goto (-24), 3) := by decide +kernel
theorem zd178_34 : decode zxm178.2.1 34 = .ok (.aload_n 0, 1) := by decide +kernel
theorem zd178_35 : decode zxm178.2.1 35 = .ok (.getfield 23, 3) := by decide +kernel
theorem zd178_38 : decode zxm178.2.1 38 = .ok (.ireturn, 1) := by decide +kernel
theorem zt_Matcher_fewestColumns {f0 : Int} {f2 : Int} {f3 : Int} {f6 : Int} {f7 : Int} {g0 : (Int → Int)} {g1 : (Int → Int)} {g2 : (Int → Int)} {g3 : (Int → Int)} {g4 : (Int → Int)} {g5 : (Int → Int)} {o : Int × Int × Int × (Int → Int) × (Int → Int) × (Int → Int)} (h : zf_Matcher_fewestColumns f0 f2 f3 f6 f7 g0 g1 g2 g3 g4 g5 = some o) : zv_Fn z_TB z_cl z_KX zy_Matcher_fewestColumns zxm178 (20, 1200) [.inr 0, .inr 1, .inr 2] [.inl f0, .inr 3, .inl f2, .inl f3, .inr 1000, .inr 1000, .inl f6, .inl f7] [g0, g1, g2, g3, g4, g5] (some o.1) [.inl o.2.1, .inr 3, .inl f2, .inl f3, .inr 1000, .inr 1000, .inl o.2.2.1, .inl f7] [g0, g1, o.2.2.2.1, g3, o.2.2.2.2.1, o.2.2.2.2.2] := zv_meth (K := (z_KF4, z_KC4, z_KL4, z_KT4, [], [], [], none)) (FT := z_FT) (MT := z_MT) (n := 3) zxp178 (z_ks4 _ (fun _ h => List.mem_cons_of_mem _ h) _ _ _ _ (fun j r h _ => by cases h)) (fun _ _ => zs_KX_p) zyw_Matcher_fewestColumns (fun va F G h => by obtain ⟨rfl, _⟩ := h; rfl) (fun va F G h => by obtain ⟨rfl, _⟩ := h; rfl) rfl fun good va F G hB hret hvret hP => by
  obtain ⟨rfl, rfl, rfl⟩ := hP
  have l0 : ∀ (n : Nat) (x3 : Int) (f0 : Int) (f6 : Int) (g2 : (Int → Int)) (g4 : (Int → Int)) (g5 : (Int → Int)) (q : Int × Int × (Int → Int) × (Int → Int) × (Int → Int)), zf_Matcher_fewestColumns_l0 f2 f3 f7 g0 g1 g3 n x3 f0 f6 g2 g4 g5 = some q → (good 34 [.inr 0, .inr 1000, .inr 1000, .inr 1000] [] [.inl q.1, .inr 3, .inl f2, .inl f3, .inr 1000, .inr 1000, .inl q.2.1, .inl f7] [g0, g1, q.2.2.1, g3, q.2.2.2.1, q.2.2.2.2]) → good 7 [.inr 0, .inr 1, .inr 2, .inl x3] [] [.inl f0, .inr 3, .inl f2, .inl f3, .inr 1000, .inr 1000, .inl f6, .inl f7] [g0, g1, g2, g3, g4, g5] := by
    intro n
    induction n with
    | zero => intro x3 f0 f6 g2 g4 g5 q h; exact absurd (show none = some q from h) (fun h => by cases h)
    | succ n ih =>
      intro x3 f0 f6 g2 g4 g5 q h hK
      replace h : zf_Matcher_fewestColumns_l0_b f2 f3 f7 g0 g1 g3 (zf_Matcher_fewestColumns_l0 f2 f3 f7 g0 g1 g3 n) x3 f0 f6 g2 g4 g5 = some q := h
      unfold zf_Matcher_fewestColumns_l0_b at h
      refine zv_ild hB zd178_7 rfl rfl ?_
      refine zv_con hB zd178_8 rfl ?_
      refine zv_cgt hB zd178_9 rfl (fun hc1 => ?_) (fun hc1 => ?_)
      · rw [if_pos hc1] at h
        have hq := Option.some.inj h
        subst hq
        refine zv_wk hB (L' := [.inr 0, .inr 1000, .inr 1000, .inr 1000]) (F' := [.inl f0, .inr 3, .inl f2, .inl f3, .inr 1000, .inr 1000, .inl f6, .inl f7]) ⟨fun _ => rfl, fun (h : zv_is (.inr 1000)) => (Nat.lt_irrefl 1000 h).elim, fun (h : zv_is (.inr 1000)) => (Nat.lt_irrefl 1000 h).elim, fun (h : zv_is (.inr 1000)) => (Nat.lt_irrefl 1000 h).elim, trivial⟩ ⟨fun _ => rfl, fun _ => rfl, fun _ => rfl, fun _ => rfl, fun (h : zv_is (.inr 1000)) => (Nat.lt_irrefl 1000 h).elim, fun (h : zv_is (.inr 1000)) => (Nat.lt_irrefl 1000 h).elim, fun _ => rfl, fun _ => rfl, trivial⟩ ?_
        exact hK
      · rw [if_neg (Int.not_lt.mpr hc1)] at h
        refine zv_ald hB zd178_12 rfl rfl rfl ?_
        refine zv_getf hB zd178_13 rfl rfl (fun _ _ => ?_)
        refine zv_con hB zd178_16 rfl ?_
        refine zv_cne hB zd178_17 rfl (fun hc2 => ?_) (fun hc2 => ?_)
        · rw [if_neg hc2] at h
          have hq := Option.some.inj h
          subst hq
          refine zv_wk hB (L' := [.inr 0, .inr 1000, .inr 1000, .inr 1000]) (F' := [.inl f0, .inr 3, .inl f2, .inl f3, .inr 1000, .inr 1000, .inl f6, .inl f7]) ⟨fun _ => rfl, fun (h : zv_is (.inr 1000)) => (Nat.lt_irrefl 1000 h).elim, fun (h : zv_is (.inr 1000)) => (Nat.lt_irrefl 1000 h).elim, fun (h : zv_is (.inr 1000)) => (Nat.lt_irrefl 1000 h).elim, trivial⟩ ⟨fun _ => rfl, fun _ => rfl, fun _ => rfl, fun _ => rfl, fun (h : zv_is (.inr 1000)) => (Nat.lt_irrefl 1000 h).elim, fun (h : zv_is (.inr 1000)) => (Nat.lt_irrefl 1000 h).elim, fun _ => rfl, fun _ => rfl, trivial⟩ ?_
          exact hK
        · rw [if_pos hc2] at h
          refine zv_ald hB zd178_20 rfl rfl rfl ?_
          refine zv_ald hB zd178_21 rfl rfl rfl ?_
          refine zv_ald hB zd178_22 rfl rfl rfl ?_
          refine zv_con hB zd178_23 rfl ?_
          refine zv_ild hB zd178_24 rfl rfl ?_
          obtain ⟨r3, hr3, h⟩ := zi_bind h
          refine zv_cv hB (zv_emq (va2 := [.inr 0, .inr 1, .inr 2, .inl 0, .inl x3]) (F := [.inl f0, .inr 3, .inl f2, .inl f3, .inr 1000, .inr 1000, .inl f6, .inl f7]) (F' := [.inl r3.1, .inr 3, .inl f2, .inl f3, .inr 1000, .inr 1000, .inl r3.2.1, .inl f7]) (G := [g0, g1, g2, g3, g4, g5]) (G' := [g0, g1, r3.2.2.1, g3, r3.2.2.2.1, r3.2.2.2.2]) (ρ := [0, 1, 2, 3, 4, 5, 6, 7, 8, 9]) (φ := [0, 1, 2, 3, 4, 5, 6, 7]) (ψ := [0, 1, 2, 3, 4, 5]) [some 0, some 1, some 2, some 3, some 4, some 5, some 6, some 7] [some 0, some 1, some 2, some 3, some 4, some 5] zyw_Matcher_hide zyw_Matcher_fewestColumns zye_Matcher_fewestColumns (by decide +kernel) (zt_Matcher_hide hr3) ⟨⟨_, rfl, fun _ => rfl⟩, ⟨_, rfl, fun _ => rfl⟩, ⟨_, rfl, fun _ => rfl⟩, ⟨_, rfl, fun _ => rfl⟩, ⟨_, rfl, fun (h : zv_is (.inr 1000)) => (Nat.lt_irrefl 1000 h).elim⟩, ⟨_, rfl, fun (h : zv_is (.inr 1000)) => (Nat.lt_irrefl 1000 h).elim⟩, ⟨_, rfl, fun _ => rfl⟩, ⟨_, rfl, fun _ => rfl⟩, trivial⟩ ⟨rfl, rfl, rfl, rfl, rfl, rfl, trivial⟩ rfl rfl rfl rfl rfl rfl rfl) zd178_25 zxt179 rfl (by decide) (by decide) rfl ?_
          refine zv_iincw hB zd178_28 rfl rfl ?_
          refine zv_goto hB zd178_31 rfl ?_
          exact ih _ _ _ _ _ _ q h hK
  unfold zf_Matcher_fewestColumns at h
  refine zv_ald hB zd178_0 rfl rfl rfl ?_
  refine zv_con hB zd178_1 rfl ?_
  refine zv_putf hB zd178_2 rfl rfl (fun h => by cases h) rfl ?_
  refine zv_con hB zd178_5 rfl ?_
  refine zv_ist hB zd178_6 rfl rfl rfl ?_
  obtain ⟨q4, hq4, h⟩ := zi_bind h
  refine l0 _ _ _ _ _ _ _ q4 hq4 ?_
  show good 34 [.inr 0, .inr 1000, .inr 1000, .inr 1000] [] [.inl q4.1, .inr 3, .inl f2, .inl f3, .inr 1000, .inr 1000, .inl q4.2.1, .inl f7] [g0, g1, q4.2.2.1, g3, q4.2.2.2.1, q4.2.2.2.2]
  refine zv_ald hB zd178_34 rfl rfl rfl ?_
  refine zv_getf hB zd178_35 rfl rfl (fun _ _ => ?_)
  have hw := Option.some.inj h
  subst hw
  exact hret _ _ _ _ _ zd178_38 (by trivial) ⟨rfl, rfl, rfl⟩
