/-! Methods as functions, and that they do what these do. -/
/-! View_largestFigure ()I -/
-- names: 0 View('arg', 0), 1 (0, 24)(0, 7, 5)
-- fields: f0 = 0.shown_; arrays: g0 = 1; out: [('ret', None)]
abbrev zy_View_largestFigure : zNL := (2, [(0, 7)], [(0, 7, 4, 0)], [(0, 7, 5, 1)], [(1, 0, 24, 0)])
theorem zyw_View_largestFigure : zv_wf zy_View_largestFigure = true := by decide +kernel
theorem zye_View_largestFigure : zv_ek2 zy_View_largestFigure = true := by decide +kernel
def zf_View_largestFigure_l0_b (g0 : (Int → Int)) (rec : Int → Int → Int → Option (Int)) (x1 : Int) (x2 : Int) (x3 : Int) : Option (Int) := if x3 < 24 then (if (zi_and (zi_shr x2 x3) 1) = 0 then (rec x1 x2 (zi_w (x3 + 1))) else ((zf_View_reach x3 (-1) (-1) g0).bind fun r3 => ((zf_Integer_bitCount r3).bind fun r4 => ((zf_Math_max x1 r4).bind fun r5 => (rec r5 (zi_and x2 (zi_xor r3 (-1))) (zi_w (x3 + 1))))))) else (some x1)
def zf_View_largestFigure_l0 (g0 : (Int → Int)) : Nat → Int → Int → Int → Option (Int)
  | 0, _, _, _ => none
  | n + 1, x1, x2, x3 => zf_View_largestFigure_l0_b g0 (zf_View_largestFigure_l0 g0 n) x1 x2 x3
def zf_View_largestFigure (f0 : Int) (g0 : (Int → Int)) : Option (Int) := (zf_View_largestFigure_l0 g0 zi_fu 0 f0 0).bind fun q6 => (some q6)
theorem zd106_0 : decode zxm106.2.1 0 = .ok (.iconst 0, 1) := by decide +kernel
theorem zd106_1 : decode zxm106.2.1 1 = .ok (.istore_n 1, 1) := by decide +kernel
theorem zd106_2 : decode zxm106.2.1 2 = .ok (.aload_n 0, 1) := by decide +kernel
theorem zd106_3 : decode zxm106.2.1 3 = .ok (.getfield 18, 3) := by decide +kernel
theorem zd106_6 : decode zxm106.2.1 6 = .ok (.istore_n 2, 1) := by decide +kernel
theorem zd106_7 : decode zxm106.2.1 7 = .ok (.iconst 0, 1) := by decide +kernel
theorem zd106_8 : decode zxm106.2.1 8 = .ok (.istore_n 3, 1) := by decide +kernel
theorem zd106_9 : decode zxm106.2.1 9 = .ok (.iload_n 3, 1) := by decide +kernel
theorem zd106_10 : decode zxm106.2.1 10 = .ok (.bipush 24, 2) := by decide +kernel
theorem zd106_12 : decode zxm106.2.1 12 = .ok (.if_icmp .ge 43, 3) := by decide +kernel
theorem zd106_15 : decode zxm106.2.1 15 = .ok (.iload_n 2, 1) := by decide +kernel
theorem zd106_16 : decode zxm106.2.1 16 = .ok (.iload_n 3, 1) := by decide +kernel
theorem zd106_17 : decode zxm106.2.1 17 = .ok (.ishr, 1) := by decide +kernel
theorem zd106_18 : decode zxm106.2.1 18 = .ok (.iconst 1, 1) := by decide +kernel
theorem zd106_19 : decode zxm106.2.1 19 = .ok (.iand, 1) := by decide +kernel
theorem zd106_20 : decode zxm106.2.1 20 = .ok (.ifCond .eq 29, 3) := by decide +kernel
theorem zd106_23 : decode zxm106.2.1 23 = .ok (.aload_n 0, 1) := by decide +kernel
theorem zd106_24 : decode zxm106.2.1 24 = .ok (.iload_n 3, 1) := by decide +kernel
theorem zd106_25 : decode zxm106.2.1 25 = .ok (.iconst (-1), 1) := by decide +kernel
theorem zd106_26 : decode zxm106.2.1 26 = .ok (.iconst (-1), 1) := by decide +kernel
theorem zd106_27 : decode zxm106.2.1 27 = .ok (.invokevirtual 139, 3) := by decide +kernel
theorem zd106_30 : decode zxm106.2.1 30 = .ok (.istore 4, 2) := by decide +kernel
theorem zd106_32 : decode zxm106.2.1 32 = .ok (.iload_n 1, 1) := by decide +kernel
theorem zd106_33 : decode zxm106.2.1 33 = .ok (.iload 4, 2) := by decide +kernel
theorem zd106_35 : decode zxm106.2.1 35 = .ok (.invokestatic 131, 3) := by decide +kernel
theorem zd106_38 : decode zxm106.2.1 38 = .ok (.invokestatic 143, 3) := by decide +kernel
theorem zd106_41 : decode zxm106.2.1 41 = .ok (.istore_n 1, 1) := by decide +kernel
theorem zd106_42 : decode zxm106.2.1 42 = .ok (.iload_n 2, 1) := by decide +kernel
theorem zd106_43 : decode zxm106.2.1 43 = .ok (.iload 4, 2) := by decide +kernel
theorem zd106_45 : decode zxm106.2.1 45 = .ok (.iconst (-1), 1) := by decide +kernel
theorem zd106_46 : decode zxm106.2.1 46 = .ok (.ixor, 1) := by decide +kernel
theorem zd106_47 : decode zxm106.2.1 47 = .ok (.iand, 1) := by decide +kernel
theorem zd106_48 : decode zxm106.2.1 48 = .ok (.istore_n 2, 1) := by decide +kernel
theorem zd106_49 : decode zxm106.2.1 49 = .ok (.iinc 3 1, 3) := by decide +kernel
theorem zd106_52 : decode zxm106.2.1 52 = .ok (.goto (-43), 3) := by decide +kernel
theorem zd106_55 : decode zxm106.2.1 55 = .ok (.iload_n 1, 1) := by decide +kernel
theorem zd106_56 : decode zxm106.2.1 56 = .ok (.ireturn, 1) := by decide +kernel
theorem zt_View_largestFigure {f0 : Int} {g0 : (Int → Int)} {o : Int} (h : zf_View_largestFigure f0 g0 = some o) : zv_Fn z_TB z_cl z_KX zy_View_largestFigure zxm106 (3, 180) [.inr 0] [.inl f0] [g0] (some o) [.inl f0] [g0] := zv_meth (K := (z_KF11, z_KC11, z_KL11, z_KT11, [], [], [], none)) (FT := z_FT) (MT := z_MT) (n := 1) zxp106 (z_ks11 _ (fun _ h => List.mem_cons_of_mem _ h) _ _ _ _ (fun j r h _ => by cases h)) (fun _ _ => zs_KX_p) zyw_View_largestFigure (fun va F G h => by obtain ⟨rfl, _⟩ := h; rfl) rfl fun good va F G hB hret hvret hP => by
  obtain ⟨rfl, rfl, rfl⟩ := hP
  have l0 : ∀ (n : Nat) (x1 : Int) (x2 : Int) (x3 : Int) (q : Int), zf_View_largestFigure_l0 g0 n x1 x2 x3 = some q → (good 55 [.inr 1000, .inl q, .inr 1000, .inr 1000, .inr 1000] [] [.inl f0] [g0]) → good 9 [.inr 0, .inl x1, .inl x2, .inl x3, .inr 1000] [] [.inl f0] [g0] := by
    intro n
    induction n with
    | zero => intro x1 x2 x3 q h; exact absurd (show none = some q from h) (fun h => by cases h)
    | succ n ih =>
      intro x1 x2 x3 q h hK
      replace h : zf_View_largestFigure_l0_b g0 (zf_View_largestFigure_l0 g0 n) x1 x2 x3 = some q := h
      unfold zf_View_largestFigure_l0_b at h
      refine zv_ild hB zd106_9 rfl rfl ?_
      refine zv_con hB zd106_10 rfl ?_
      refine zv_cge hB zd106_12 rfl (fun hc1 => ?_) (fun hc1 => ?_)
      · rw [if_neg (Int.not_lt.mpr hc1)] at h
        have hq := Option.some.inj h
        subst hq
        refine zv_wk hB (L' := [.inr 1000, .inl x1, .inr 1000, .inr 1000, .inr 1000]) (F' := [.inl f0]) ⟨fun h => (Nat.lt_irrefl 1000 h).elim, fun _ => rfl, fun h => (Nat.lt_irrefl 1000 h).elim, fun h => (Nat.lt_irrefl 1000 h).elim, fun h => (Nat.lt_irrefl 1000 h).elim, trivial⟩ ⟨fun _ => rfl, trivial⟩ ?_
        exact hK
      · rw [if_pos hc1] at h
        refine zv_ild hB zd106_15 rfl rfl ?_
        refine zv_ild hB zd106_16 rfl rfl ?_
        refine zv_shrw hB zd106_17 ?_
        refine zv_con hB zd106_18 rfl ?_
        refine zv_andw hB zd106_19 ?_
        refine zv_zeq hB zd106_20 rfl (fun hc2 => ?_) (fun hc2 => ?_)
        · rw [if_pos hc2] at h
          refine zv_iincw hB zd106_49 rfl rfl ?_
          refine zv_goto hB zd106_52 rfl ?_
          exact ih _ _ _ q h hK
        · rw [if_neg hc2] at h
          refine zv_ald hB zd106_23 rfl rfl rfl ?_
          refine zv_ild hB zd106_24 rfl rfl ?_
          refine zv_con hB zd106_25 rfl ?_
          refine zv_con hB zd106_26 rfl ?_
          obtain ⟨r3, hr3, h⟩ := zi_bind h
          refine zv_cv hB (show zv_Fn _ _ _ zy_View_largestFigure _ _ [.inr 0, .inl x3, .inl (-1), .inl (-1)] [.inl f0] [g0] (some r3) [.inl f0] [g0] from zv_emb (F := [.inl f0]) (G := [g0]) zyw_View_reach zyw_View_largestFigure zye_View_largestFigure (by decide +kernel : zv_ek zy_View_reach zy_View_largestFigure [0, 1] [] [0] = true) (zt_View_reach hr3) trivial ⟨rfl, trivial⟩) zd106_27 zxt104 rfl (by decide) (by decide) rfl ?_
          refine zv_ist hB zd106_30 rfl rfl rfl ?_
          refine zv_ild hB zd106_32 rfl rfl ?_
          refine zv_ild hB zd106_33 rfl rfl ?_
          obtain ⟨r4, hr4, h⟩ := zi_bind h
          refine zv_cs hB (show zv_Fn _ _ _ zy_View_largestFigure _ _ [.inl r3] [.inl f0] [g0] (some r4) [.inl f0] [g0] from zv_emb (F := [.inl f0]) (G := [g0]) zyw_Integer_bitCount zyw_View_largestFigure zye_View_largestFigure (by decide +kernel : zv_ek zy_Integer_bitCount zy_View_largestFigure [] [] [] = true) (zt_Integer_bitCount hr4) trivial trivial) zd106_35 zxt102 rfl (by decide) (by decide) rfl ?_
          obtain ⟨r5, hr5, h⟩ := zi_bind h
          refine zv_cs hB (show zv_Fn _ _ _ zy_View_largestFigure _ _ [.inl x1, .inl r4] [.inl f0] [g0] (some r5) [.inl f0] [g0] from zv_emb (F := [.inl f0]) (G := [g0]) zyw_Math_max zyw_View_largestFigure zye_View_largestFigure (by decide +kernel : zv_ek zy_Math_max zy_View_largestFigure [] [] [] = true) (zt_Math_max hr5) trivial trivial) zd106_38 zxt55 rfl (by decide) (by decide) rfl ?_
          refine zv_ist hB zd106_41 rfl rfl rfl ?_
          refine zv_ild hB zd106_42 rfl rfl ?_
          refine zv_ild hB zd106_43 rfl rfl ?_
          refine zv_con hB zd106_45 rfl ?_
          refine zv_xorw hB zd106_46 ?_
          refine zv_andw hB zd106_47 ?_
          refine zv_ist hB zd106_48 rfl rfl rfl ?_
          refine zv_iincw hB zd106_49 rfl rfl ?_
          refine zv_goto hB zd106_52 rfl ?_
          refine zv_wk hB (L' := [.inr 0, .inl r5, .inl (zi_and x2 (zi_xor r3 (-1))), .inl (zi_w (x3 + 1)), .inr 1000]) (F' := [.inl f0]) ⟨fun _ => rfl, fun _ => rfl, fun _ => rfl, fun _ => rfl, fun h => (Nat.lt_irrefl 1000 h).elim, trivial⟩ ⟨fun _ => rfl, trivial⟩ ?_
          exact ih _ _ _ q h hK
  unfold zf_View_largestFigure at h
  refine zv_con hB zd106_0 rfl ?_
  refine zv_ist hB zd106_1 rfl rfl rfl ?_
  refine zv_ald hB zd106_2 rfl rfl rfl ?_
  refine zv_getf hB zd106_3 rfl rfl (fun _ _ => ?_)
  refine zv_ist hB zd106_6 rfl rfl rfl ?_
  refine zv_con hB zd106_7 rfl ?_
  refine zv_ist hB zd106_8 rfl rfl rfl ?_
  obtain ⟨q6, hq6, h⟩ := zi_bind h
  refine l0 _ _ _ _ q6 hq6 ?_
  show good 55 [.inr 1000, .inl q6, .inr 1000, .inr 1000, .inr 1000] [] [.inl f0] [g0]
  refine zv_ild hB zd106_55 rfl rfl ?_
  have hw := Option.some.inj h
  subst hw
  exact hret _ _ _ _ _ zd106_56 (by trivial) ⟨rfl, rfl, rfl⟩
/-! View_countHolding ()I -/
-- names: 0 View('arg', 0), 1 (0, 24)(0, 7, 5)
-- fields: ; arrays: g0 = 1; out: [('ret', None)]
abbrev zy_View_countHolding : zNL := (2, [(0, 7)], [], [(0, 7, 5, 1)], [(1, 0, 24, 0)])
theorem zyw_View_countHolding : zv_wf zy_View_countHolding = true := by decide +kernel
theorem zye_View_countHolding : zv_ek2 zy_View_countHolding = true := by decide +kernel
def zf_View_countHolding_l1_b (x2 : Int) (g0 : (Int → Int)) (rec : Int → Int → Option (Int)) (x1 : Int) (x3 : Int) : Option (Int) := if x3 < 24 then (cond (zi_ix x2 24) (if (zi_and (zi_shr (g0 x2) x3) 1) = 0 then (rec x1 (zi_w (x3 + 1))) else ((zf_View_reach x2 x2 x3 g0).bind fun r5 => (if (zi_and (zi_shr r5 x3) 1) = 0 then (rec (zi_w (x1 + 1)) (zi_w (x3 + 1))) else (rec x1 (zi_w (x3 + 1)))))) none) else (some x1)
def zf_View_countHolding_l1 (x2 : Int) (g0 : (Int → Int)) : Nat → Int → Int → Option (Int)
  | 0, _, _ => none
  | n + 1, x1, x3 => zf_View_countHolding_l1_b x2 g0 (zf_View_countHolding_l1 x2 g0 n) x1 x3
def zf_View_countHolding_l0_b (g0 : (Int → Int)) (rec : Int → Int → Option (Int)) (x1 : Int) (x2 : Int) : Option (Int) := if x2 < 24 then ((zf_View_countHolding_l1 x2 g0 zi_fu x1 (zi_w (x2 + 1))).bind fun q7 => (rec q7 (zi_w (x2 + 1)))) else (some x1)
def zf_View_countHolding_l0 (g0 : (Int → Int)) : Nat → Int → Int → Option (Int)
  | 0, _, _ => none
  | n + 1, x1, x2 => zf_View_countHolding_l0_b g0 (zf_View_countHolding_l0 g0 n) x1 x2
def zf_View_countHolding (g0 : (Int → Int)) : Option (Int) := (zf_View_countHolding_l0 g0 zi_fu 0 0).bind fun q8 => (some q8)
theorem zd107_0 : decode zxm107.2.1 0 = .ok (.iconst 0, 1) := by decide +kernel
theorem zd107_1 : decode zxm107.2.1 1 = .ok (.istore_n 1, 1) := by decide +kernel
theorem zd107_2 : decode zxm107.2.1 2 = .ok (.iconst 0, 1) := by decide +kernel
theorem zd107_3 : decode zxm107.2.1 3 = .ok (.istore_n 2, 1) := by decide +kernel
theorem zd107_4 : decode zxm107.2.1 4 = .ok (.iload_n 2, 1) := by decide +kernel
theorem zd107_5 : decode zxm107.2.1 5 = .ok (.bipush 24, 2) := by decide +kernel
theorem zd107_7 : decode zxm107.2.1 7 = .ok (.if_icmp .ge 55, 3) := by decide +kernel
theorem zd107_10 : decode zxm107.2.1 10 = .ok (.iload_n 2, 1) := by decide +kernel
theorem zd107_11 : decode zxm107.2.1 11 = .ok (.iconst 1, 1) := by decide +kernel
theorem zd107_12 : decode zxm107.2.1 12 = .ok (.iadd, 1) := by decide +kernel
theorem zd107_13 : decode zxm107.2.1 13 = .ok (.istore_n 3, 1) := by decide +kernel
theorem zd107_14 : decode zxm107.2.1 14 = .ok (.iload_n 3, 1) := by decide +kernel
theorem zd107_15 : decode zxm107.2.1 15 = .ok (.bipush 24, 2) := by decide +kernel
theorem zd107_17 : decode zxm107.2.1 17 = .ok (.if_icmp .ge 39, 3) := by decide +kernel
theorem zd107_20 : decode zxm107.2.1 20 = .ok (.aload_n 0, 1) := by decide +kernel
theorem zd107_21 : decode zxm107.2.1 21 = .ok (.getfield 21, 3) := by decide +kernel
theorem zd107_24 : decode zxm107.2.1 24 = .ok (.iload_n 2, 1) := by decide +kernel
theorem zd107_25 : decode zxm107.2.1 25 = .ok (.iaload, 1) := by decide +kernel
theorem zd107_26 : decode zxm107.2.1 26 = .ok (.iload_n 3, 1) := by decide +kernel
theorem zd107_27 : decode zxm107.2.1 27 = .ok (.ishr, 1) := by decide +kernel
theorem zd107_28 : decode zxm107.2.1 28 = .ok (.iconst 1, 1) := by decide +kernel
theorem zd107_29 : decode zxm107.2.1 29 = .ok (.iand, 1) := by decide +kernel
theorem zd107_30 : decode zxm107.2.1 30 = .ok (.ifCond .eq 20, 3) := by decide +kernel
theorem zd107_33 : decode zxm107.2.1 33 = .ok (.aload_n 0, 1) := by decide +kernel
theorem zd107_34 : decode zxm107.2.1 34 = .ok (.iload_n 2, 1) := by decide +kernel
theorem zd107_35 : decode zxm107.2.1 35 = .ok (.iload_n 2, 1) := by decide +kernel
theorem zd107_36 : decode zxm107.2.1 36 = .ok (.iload_n 3, 1) := by decide +kernel
theorem zd107_37 : decode zxm107.2.1 37 = .ok (.invokevirtual 139, 3) := by decide +kernel
theorem zd107_40 : decode zxm107.2.1 40 = .ok (.iload_n 3, 1) := by decide +kernel
theorem zd107_41 : decode zxm107.2.1 41 = .ok (.ishr, 1) := by decide +kernel
theorem zd107_42 : decode zxm107.2.1 42 = .ok (.iconst 1, 1) := by decide +kernel
theorem zd107_43 : decode zxm107.2.1 43 = .ok (.iand, 1) := by decide +kernel
theorem zd107_44 : decode zxm107.2.1 44 = .ok (.ifCond .ne 6, 3) := by decide +kernel
theorem zd107_47 : decode zxm107.2.1 47 = .ok (.iinc 1 1, 3) := by decide +kernel
theorem zd107_50 : decode zxm107.2.1 50 = .ok (.iinc 3 1, 3) := by decide +kernel
theorem zd107_53 : decode zxm107.2.1 53 = .ok (.goto (-39), 3) := by decide +kernel
theorem zd107_56 : decode zxm107.2.1 56 = .ok (.iinc 2 1, 3) := by decide +kernel
theorem zd107_59 : decode zxm107.2.1 59 = .ok (.goto (-55), 3) := by decide +kernel
theorem zd107_62 : decode zxm107.2.1 62 = .ok (.iload_n 1, 1) := by decide +kernel
theorem zd107_63 : decode zxm107.2.1 63 = .ok (.ireturn, 1) := by decide +kernel
theorem zt_View_countHolding {g0 : (Int → Int)} {o : Int} (h : zf_View_countHolding g0 = some o) : zv_Fn z_TB z_cl z_KX zy_View_countHolding zxm107 (3, 180) [.inr 0] [] [g0] (some o) [] [g0] := zv_meth (K := (z_KF11, z_KC11, z_KL11, z_KT11, [], [], [], none)) (FT := z_FT) (MT := z_MT) (n := 1) zxp107 (z_ks11 _ (fun _ h => List.mem_cons_of_mem _ h) _ _ _ _ (fun j r h _ => by cases h)) (fun _ _ => zs_KX_p) zyw_View_countHolding (fun va F G h => by obtain ⟨rfl, _⟩ := h; rfl) rfl fun good va F G hB hret hvret hP => by
  obtain ⟨rfl, rfl, rfl⟩ := hP
  have l1 : ∀ (n : Nat) (x1 : Int) (x2 : Int) (x3 : Int) (q : Int), zf_View_countHolding_l1 x2 g0 n x1 x3 = some q → (good 56 [.inr 0, .inl q, .inl x2, .inr 1000] [] [] [g0]) → good 14 [.inr 0, .inl x1, .inl x2, .inl x3] [] [] [g0] := by
    intro n
    induction n with
    | zero => intro x1 x2 x3 q h; exact absurd (show none = some q from h) (fun h => by cases h)
    | succ n ih =>
      intro x1 x2 x3 q h hK
      replace h : zf_View_countHolding_l1_b x2 g0 (zf_View_countHolding_l1 x2 g0 n) x1 x3 = some q := h
      unfold zf_View_countHolding_l1_b at h
      refine zv_ild hB zd107_14 rfl rfl ?_
      refine zv_con hB zd107_15 rfl ?_
      refine zv_cge hB zd107_17 rfl (fun hc2 => ?_) (fun hc2 => ?_)
      · rw [if_neg (Int.not_lt.mpr hc2)] at h
        have hq := Option.some.inj h
        subst hq
        refine zv_wk hB (L' := [.inr 0, .inl x1, .inl x2, .inr 1000]) (F' := []) ⟨fun _ => rfl, fun _ => rfl, fun _ => rfl, fun h => (Nat.lt_irrefl 1000 h).elim, trivial⟩ trivial ?_
        exact hK
      · rw [if_pos hc2] at h
        refine zv_ald hB zd107_20 rfl rfl rfl ?_
        refine zv_getr hB zd107_21 rfl ?_
        refine zv_ild hB zd107_24 rfl rfl ?_
        obtain ⟨c3, h⟩ := zi_if h
        refine zv_iald hB zd107_25 rfl rfl (zi_ix_ok c3).1 (zi_ix_ok c3).2 (fun _ _ => ?_)
        refine zv_ild hB zd107_26 rfl rfl ?_
        refine zv_shrw hB zd107_27 ?_
        refine zv_con hB zd107_28 rfl ?_
        refine zv_andw hB zd107_29 ?_
        refine zv_zeq hB zd107_30 rfl (fun hc4 => ?_) (fun hc4 => ?_)
        · rw [if_pos hc4] at h
          refine zv_iincw hB zd107_50 rfl rfl ?_
          refine zv_goto hB zd107_53 rfl ?_
          exact ih _ _ _ q h hK
        · rw [if_neg hc4] at h
          refine zv_ald hB zd107_33 rfl rfl rfl ?_
          refine zv_ild hB zd107_34 rfl rfl ?_
          refine zv_ild hB zd107_35 rfl rfl ?_
          refine zv_ild hB zd107_36 rfl rfl ?_
          obtain ⟨r5, hr5, h⟩ := zi_bind h
          refine zv_cv hB (show zv_Fn _ _ _ zy_View_countHolding _ _ [.inr 0, .inl x2, .inl x2, .inl x3] [] [g0] (some r5) [] [g0] from zv_emb (F := []) (G := [g0]) zyw_View_reach zyw_View_countHolding zye_View_countHolding (by decide +kernel : zv_ek zy_View_reach zy_View_countHolding [0, 1] [] [0] = true) (zt_View_reach hr5) trivial ⟨rfl, trivial⟩) zd107_37 zxt104 rfl (by decide) (by decide) rfl ?_
          refine zv_ild hB zd107_40 rfl rfl ?_
          refine zv_shrw hB zd107_41 ?_
          refine zv_con hB zd107_42 rfl ?_
          refine zv_andw hB zd107_43 ?_
          refine zv_zne hB zd107_44 rfl (fun hc6 => ?_) (fun hc6 => ?_)
          · rw [if_neg hc6] at h
            refine zv_iincw hB zd107_50 rfl rfl ?_
            refine zv_goto hB zd107_53 rfl ?_
            exact ih _ _ _ q h hK
          · rw [if_pos hc6] at h
            refine zv_iincw hB zd107_47 rfl rfl ?_
            refine zv_iincw hB zd107_50 rfl rfl ?_
            refine zv_goto hB zd107_53 rfl ?_
            exact ih _ _ _ q h hK
  have l0 : ∀ (n : Nat) (x1 : Int) (x2 : Int) (q : Int), zf_View_countHolding_l0 g0 n x1 x2 = some q → (good 62 [.inr 1000, .inl q, .inr 1000, .inr 1000] [] [] [g0]) → good 4 [.inr 0, .inl x1, .inl x2, .inr 1000] [] [] [g0] := by
    intro n
    induction n with
    | zero => intro x1 x2 q h; exact absurd (show none = some q from h) (fun h => by cases h)
    | succ n ih =>
      intro x1 x2 q h hK
      replace h : zf_View_countHolding_l0_b g0 (zf_View_countHolding_l0 g0 n) x1 x2 = some q := h
      unfold zf_View_countHolding_l0_b at h
      refine zv_ild hB zd107_4 rfl rfl ?_
      refine zv_con hB zd107_5 rfl ?_
      refine zv_cge hB zd107_7 rfl (fun hc1 => ?_) (fun hc1 => ?_)
      · rw [if_neg (Int.not_lt.mpr hc1)] at h
        have hq := Option.some.inj h
        subst hq
        refine zv_wk hB (L' := [.inr 1000, .inl x1, .inr 1000, .inr 1000]) (F' := []) ⟨fun h => (Nat.lt_irrefl 1000 h).elim, fun _ => rfl, fun h => (Nat.lt_irrefl 1000 h).elim, fun h => (Nat.lt_irrefl 1000 h).elim, trivial⟩ trivial ?_
        exact hK
      · rw [if_pos hc1] at h
        refine zv_ild hB zd107_10 rfl rfl ?_
        refine zv_con hB zd107_11 rfl ?_
        refine zv_addw hB zd107_12 ?_
        refine zv_ist hB zd107_13 rfl rfl rfl ?_
        obtain ⟨q7, hq7, h⟩ := zi_bind h
        refine l1 _ _ _ _ q7 hq7 ?_
        show good 56 [.inr 0, .inl q7, .inl x2, .inr 1000] [] [] [g0]
        refine zv_iincw hB zd107_56 rfl rfl ?_
        refine zv_goto hB zd107_59 rfl ?_
        exact ih _ _ q h hK
  unfold zf_View_countHolding at h
  refine zv_con hB zd107_0 rfl ?_
  refine zv_ist hB zd107_1 rfl rfl rfl ?_
  refine zv_con hB zd107_2 rfl ?_
  refine zv_ist hB zd107_3 rfl rfl rfl ?_
  obtain ⟨q8, hq8, h⟩ := zi_bind h
  refine l0 _ _ _ q8 hq8 ?_
  show good 62 [.inr 1000, .inl q8, .inr 1000, .inr 1000] [] [] [g0]
  refine zv_ild hB zd107_62 rfl rfl ?_
  have hw := Option.some.inj h
  subst hw
  exact hret _ _ _ _ _ zd107_63 (by trivial) ⟨rfl, rfl, rfl⟩
/-! View_legsOf (I)I -/
-- names: 0 View('arg', 0), 1 (0, 24)(0, 7, 5)
-- fields: ; arrays: g0 = 1; out: [('ret', None)]
abbrev zy_View_legsOf : zNL := (2, [(0, 7)], [], [(0, 7, 5, 1)], [(1, 0, 24, 0)])
theorem zyw_View_legsOf : zv_wf zy_View_legsOf = true := by decide +kernel
theorem zye_View_legsOf : zv_ek2 zy_View_legsOf = true := by decide +kernel
def zf_View_legsOf (x1 : Int) (g0 : (Int → Int)) : Option (Int) := if x1 = (-1) then (some 0) else (cond (zi_ix x1 24) ((zf_Integer_bitCount (g0 x1)).bind fun r3 => (some r3)) none)
theorem zd109_0 : decode zxm109.2.1 0 = .ok (.iload_n 1, 1) := by decide +kernel
theorem zd109_1 : decode zxm109.2.1 1 = .ok (.iconst (-1), 1) := by decide +kernel
theorem zd109_2 : decode zxm109.2.1 2 = .ok (.if_icmp .ne 7, 3) := by decide +kernel
theorem zd109_5 : decode zxm109.2.1 5 = .ok (.iconst 0, 1) := by decide +kernel
theorem zd109_6 : decode zxm109.2.1 6 = .ok (.goto 12, 3) := by decide +kernel
theorem zd109_9 : decode zxm109.2.1 9 = .ok (.aload_n 0, 1) := by decide +kernel
theorem zd109_10 : decode zxm109.2.1 10 = .ok (.getfield 21, 3) := by decide +kernel
theorem zd109_13 : decode zxm109.2.1 13 = .ok (.iload_n 1, 1) := by decide +kernel
theorem zd109_14 : decode zxm109.2.1 14 = .ok (.iaload, 1) := by decide +kernel
theorem zd109_15 : decode zxm109.2.1 15 = .ok (.invokestatic 131, 3) := by decide +kernel
theorem zd109_18 : decode zxm109.2.1 18 = .ok (.ireturn, 1) := by decide +kernel
theorem zt_View_legsOf {x1 : Int} {g0 : (Int → Int)} {o : Int} (h : zf_View_legsOf x1 g0 = some o) : zv_Fn z_TB z_cl z_KX zy_View_legsOf zxm109 (1, 60) [.inr 0, .inl x1] [] [g0] (some o) [] [g0] := zv_meth (K := (z_KF11, z_KC11, z_KL11, z_KT11, [], [], [], none)) (FT := z_FT) (MT := z_MT) (n := 2) zxp109 (z_ks11 _ (fun _ h => List.mem_cons_of_mem _ h) _ _ _ _ (fun j r h _ => by cases h)) (fun _ _ => zs_KX_p) zyw_View_legsOf (fun va F G h => by obtain ⟨rfl, _⟩ := h; rfl) rfl fun good va F G hB hret hvret hP => by
  obtain ⟨rfl, rfl, rfl⟩ := hP
  unfold zf_View_legsOf at h
  refine zv_ild hB zd109_0 rfl rfl ?_
  refine zv_con hB zd109_1 rfl ?_
  refine zv_cne hB zd109_2 rfl (fun hc1 => ?_) (fun hc1 => ?_)
  · rw [if_neg hc1] at h
    refine zv_ald hB zd109_9 rfl rfl rfl ?_
    refine zv_getr hB zd109_10 rfl ?_
    refine zv_ild hB zd109_13 rfl rfl ?_
    obtain ⟨c2, h⟩ := zi_if h
    refine zv_iald hB zd109_14 rfl rfl (zi_ix_ok c2).1 (zi_ix_ok c2).2 (fun _ _ => ?_)
    obtain ⟨r3, hr3, h⟩ := zi_bind h
    refine zv_cs hB (show zv_Fn _ _ _ zy_View_legsOf _ _ [.inl (g0 x1)] [] [g0] (some r3) [] [g0] from zv_emb (F := []) (G := [g0]) zyw_Integer_bitCount zyw_View_legsOf zye_View_legsOf (by decide +kernel : zv_ek zy_Integer_bitCount zy_View_legsOf [] [] [] = true) (zt_Integer_bitCount hr3) trivial trivial) zd109_15 zxt102 rfl (by decide) (by decide) rfl ?_
    have hw := Option.some.inj h
    subst hw
    exact hret _ _ _ _ _ zd109_18 (by trivial) ⟨rfl, rfl, rfl⟩
  · rw [if_pos hc1] at h
    refine zv_con hB zd109_5 rfl ?_
    refine zv_goto hB zd109_6 rfl ?_
    have hw := Option.some.inj h
    subst hw
    exact hret _ _ _ _ _ zd109_18 (by trivial) ⟨rfl, rfl, rfl⟩
/-! View_mostLegged ()I -/
-- names: 0 View('arg', 0), 1 (0, 24)(0, 7, 5)
-- fields: f0 = 0.shown_; arrays: g0 = 1; out: [('ret', None)]
abbrev zy_View_mostLegged : zNL := (2, [(0, 7)], [(0, 7, 4, 0)], [(0, 7, 5, 1)], [(1, 0, 24, 0)])
theorem zyw_View_mostLegged : zv_wf zy_View_mostLegged = true := by decide +kernel
theorem zye_View_mostLegged : zv_ek2 zy_View_mostLegged = true := by decide +kernel
def zf_View_mostLegged_l0_b (f0 : Int) (g0 : (Int → Int)) (rec : Int → Int → Option (Int)) (x1 : Int) (x2 : Int) : Option (Int) := if x2 < 24 then (if (zi_and (zi_shr f0 x2) 1) = 0 then (rec x1 (zi_w (x2 + 1))) else (if x1 = (-1) then (rec x2 (zi_w (x2 + 1))) else ((zf_View_legsOf x2 g0).bind fun r4 => ((zf_View_legsOf x1 g0).bind fun r5 => (if r5 < r4 then (rec x2 (zi_w (x2 + 1))) else (rec x1 (zi_w (x2 + 1)))))))) else (some x1)
def zf_View_mostLegged_l0 (f0 : Int) (g0 : (Int → Int)) : Nat → Int → Int → Option (Int)
  | 0, _, _ => none
  | n + 1, x1, x2 => zf_View_mostLegged_l0_b f0 g0 (zf_View_mostLegged_l0 f0 g0 n) x1 x2
def zf_View_mostLegged (f0 : Int) (g0 : (Int → Int)) : Option (Int) := (zf_View_mostLegged_l0 f0 g0 zi_fu (-1) 0).bind fun q7 => (some q7)
theorem zd108_0 : decode zxm108.2.1 0 = .ok (.iconst (-1), 1) := by decide +kernel
theorem zd108_1 : decode zxm108.2.1 1 = .ok (.istore_n 1, 1) := by decide +kernel
theorem zd108_2 : decode zxm108.2.1 2 = .ok (.iconst 0, 1) := by decide +kernel
theorem zd108_3 : decode zxm108.2.1 3 = .ok (.istore_n 2, 1) := by decide +kernel
theorem zd108_4 : decode zxm108.2.1 4 = .ok (.iload_n 2, 1) := by decide +kernel
theorem zd108_5 : decode zxm108.2.1 5 = .ok (.bipush 24, 2) := by decide +kernel
theorem zd108_7 : decode zxm108.2.1 7 = .ok (.if_icmp .ge 40, 3) := by decide +kernel
theorem zd108_10 : decode zxm108.2.1 10 = .ok (.aload_n 0, 1) := by decide +kernel
theorem zd108_11 : decode zxm108.2.1 11 = .ok (.getfield 18, 3) := by decide +kernel
theorem zd108_14 : decode zxm108.2.1 14 = .ok (.iload_n 2, 1) := by decide +kernel
theorem zd108_15 : decode zxm108.2.1 15 = .ok (.ishr, 1) := by decide +kernel
theorem zd108_16 : decode zxm108.2.1 16 = .ok (.iconst 1, 1) := by decide +kernel
theorem zd108_17 : decode zxm108.2.1 17 = .ok (.iand, 1) := by decide +kernel
theorem zd108_18 : decode zxm108.2.1 18 = .ok (.ifCond .eq 23, 3) := by decide +kernel
theorem zd108_21 : decode zxm108.2.1 21 = .ok (.iload_n 1, 1) := by decide +kernel
theorem zd108_22 : decode zxm108.2.1 22 = .ok (.iconst (-1), 1) := by decide +kernel
theorem zd108_23 : decode zxm108.2.1 23 = .ok (.if_icmp .eq 16, 3) := by decide +kernel
theorem zd108_26 : decode zxm108.2.1 26 = .ok (.aload_n 0, 1) := by decide +kernel
theorem zd108_27 : decode zxm108.2.1 27 = .ok (.iload_n 2, 1) := by decide +kernel
theorem zd108_28 : decode zxm108.2.1 28 = .ok (.invokevirtual 146, 3) := by decide +kernel
theorem zd108_31 : decode zxm108.2.1 31 = .ok (.aload_n 0, 1) := by decide +kernel
theorem zd108_32 : decode zxm108.2.1 32 = .ok (.iload_n 1, 1) := by decide +kernel
theorem zd108_33 : decode zxm108.2.1 33 = .ok (.invokevirtual 146, 3) := by decide +kernel
theorem zd108_36 : decode zxm108.2.1 36 = .ok (.if_icmp .le 5, 3) := by decide +kernel
theorem zd108_39 : decode zxm108.2.1 39 = .ok (.iload_n 2, 1) := by decide +kernel
theorem zd108_40 : decode zxm108.2.1 40 = .ok (.istore_n 1, 1) := by decide +kernel
theorem zd108_41 : decode zxm108.2.1 41 = .ok (.iinc 2 1, 3) := by decide +kernel
theorem zd108_44 : decode zxm108.2.1 44 = .ok (.goto (-40), 3) := by decide +kernel
theorem zd108_47 : decode zxm108.2.1 47 = .ok (.iload_n 1, 1) := by decide +kernel
theorem zd108_48 : decode zxm108.2.1 48 = .ok (.ireturn, 1) := by decide +kernel
theorem zt_View_mostLegged {f0 : Int} {g0 : (Int → Int)} {o : Int} (h : zf_View_mostLegged f0 g0 = some o) : zv_Fn z_TB z_cl z_KX zy_View_mostLegged zxm108 (2, 120) [.inr 0] [.inl f0] [g0] (some o) [.inl f0] [g0] := zv_meth (K := (z_KF11, z_KC11, z_KL11, z_KT11, [], [], [], none)) (FT := z_FT) (MT := z_MT) (n := 1) zxp108 (z_ks11 _ (fun _ h => List.mem_cons_of_mem _ h) _ _ _ _ (fun j r h _ => by cases h)) (fun _ _ => zs_KX_p) zyw_View_mostLegged (fun va F G h => by obtain ⟨rfl, _⟩ := h; rfl) rfl fun good va F G hB hret hvret hP => by
  obtain ⟨rfl, rfl, rfl⟩ := hP
  have l0 : ∀ (n : Nat) (x1 : Int) (x2 : Int) (q : Int), zf_View_mostLegged_l0 f0 g0 n x1 x2 = some q → (good 47 [.inr 1000, .inl q, .inr 1000] [] [.inl f0] [g0]) → good 4 [.inr 0, .inl x1, .inl x2] [] [.inl f0] [g0] := by
    intro n
    induction n with
    | zero => intro x1 x2 q h; exact absurd (show none = some q from h) (fun h => by cases h)
    | succ n ih =>
      intro x1 x2 q h hK
      replace h : zf_View_mostLegged_l0_b f0 g0 (zf_View_mostLegged_l0 f0 g0 n) x1 x2 = some q := h
      unfold zf_View_mostLegged_l0_b at h
      refine zv_ild hB zd108_4 rfl rfl ?_
      refine zv_con hB zd108_5 rfl ?_
      refine zv_cge hB zd108_7 rfl (fun hc1 => ?_) (fun hc1 => ?_)
      · rw [if_neg (Int.not_lt.mpr hc1)] at h
        have hq := Option.some.inj h
        subst hq
        refine zv_wk hB (L' := [.inr 1000, .inl x1, .inr 1000]) (F' := [.inl f0]) ⟨fun h => (Nat.lt_irrefl 1000 h).elim, fun _ => rfl, fun h => (Nat.lt_irrefl 1000 h).elim, trivial⟩ ⟨fun _ => rfl, trivial⟩ ?_
        exact hK
      · rw [if_pos hc1] at h
        refine zv_ald hB zd108_10 rfl rfl rfl ?_
        refine zv_getf hB zd108_11 rfl rfl (fun _ _ => ?_)
        refine zv_ild hB zd108_14 rfl rfl ?_
        refine zv_shrw hB zd108_15 ?_
        refine zv_con hB zd108_16 rfl ?_
        refine zv_andw hB zd108_17 ?_
        refine zv_zeq hB zd108_18 rfl (fun hc2 => ?_) (fun hc2 => ?_)
        · rw [if_pos hc2] at h
          refine zv_iincw hB zd108_41 rfl rfl ?_
          refine zv_goto hB zd108_44 rfl ?_
          exact ih _ _ q h hK
        · rw [if_neg hc2] at h
          refine zv_ild hB zd108_21 rfl rfl ?_
          refine zv_con hB zd108_22 rfl ?_
          refine zv_ceq hB zd108_23 rfl (fun hc3 => ?_) (fun hc3 => ?_)
          · rw [if_pos hc3] at h
            refine zv_ild hB zd108_39 rfl rfl ?_
            refine zv_ist hB zd108_40 rfl rfl rfl ?_
            refine zv_iincw hB zd108_41 rfl rfl ?_
            refine zv_goto hB zd108_44 rfl ?_
            exact ih _ _ q h hK
          · rw [if_neg hc3] at h
            refine zv_ald hB zd108_26 rfl rfl rfl ?_
            refine zv_ild hB zd108_27 rfl rfl ?_
            obtain ⟨r4, hr4, h⟩ := zi_bind h
            refine zv_cv hB (show zv_Fn _ _ _ zy_View_mostLegged _ _ [.inr 0, .inl x2] [.inl f0] [g0] (some r4) [.inl f0] [g0] from zv_emb (F := [.inl f0]) (G := [g0]) zyw_View_legsOf zyw_View_mostLegged zye_View_mostLegged (by decide +kernel : zv_ek zy_View_legsOf zy_View_mostLegged [0, 1] [] [0] = true) (zt_View_legsOf hr4) trivial ⟨rfl, trivial⟩) zd108_28 zxt109 rfl (by decide) (by decide) rfl ?_
            refine zv_ald hB zd108_31 rfl rfl rfl ?_
            refine zv_ild hB zd108_32 rfl rfl ?_
            obtain ⟨r5, hr5, h⟩ := zi_bind h
            refine zv_cv hB (show zv_Fn _ _ _ zy_View_mostLegged _ _ [.inr 0, .inl x1] [.inl f0] [g0] (some r5) [.inl f0] [g0] from zv_emb (F := [.inl f0]) (G := [g0]) zyw_View_legsOf zyw_View_mostLegged zye_View_mostLegged (by decide +kernel : zv_ek zy_View_legsOf zy_View_mostLegged [0, 1] [] [0] = true) (zt_View_legsOf hr5) trivial ⟨rfl, trivial⟩) zd108_33 zxt109 rfl (by decide) (by decide) rfl ?_
            refine zv_cle hB zd108_36 rfl (fun hc6 => ?_) (fun hc6 => ?_)
            · rw [if_neg (Int.not_lt.mpr hc6)] at h
              refine zv_iincw hB zd108_41 rfl rfl ?_
              refine zv_goto hB zd108_44 rfl ?_
              exact ih _ _ q h hK
            · rw [if_pos hc6] at h
              refine zv_ild hB zd108_39 rfl rfl ?_
              refine zv_ist hB zd108_40 rfl rfl rfl ?_
              refine zv_iincw hB zd108_41 rfl rfl ?_
              refine zv_goto hB zd108_44 rfl ?_
              exact ih _ _ q h hK
  unfold zf_View_mostLegged at h
  refine zv_con hB zd108_0 rfl ?_
  refine zv_ist hB zd108_1 rfl rfl rfl ?_
  refine zv_con hB zd108_2 rfl ?_
  refine zv_ist hB zd108_3 rfl rfl rfl ?_
  obtain ⟨q7, hq7, h⟩ := zi_bind h
  refine l0 _ _ _ q7 hq7 ?_
  show good 47 [.inr 1000, .inl q7, .inr 1000] [] [.inl f0] [g0]
  refine zv_ild hB zd108_47 rfl rfl ?_
  have hw := Option.some.inj h
  subst hw
  exact hret _ _ _ _ _ zd108_48 (by trivial) ⟨rfl, rfl, rfl⟩
