/-! Methods as functions, and that they do what these do. -/
/-! View_largestFigure ()I -/
-- names: 0 View('arg', 0), 1 (0, 24)(0, 7, 5)
-- fields: f0 = 0.shown_; arrays: g0 = 1; out: [('ret', None)]
abbrev zy_View_largestFigure : zNL := (2, [(0, 7)], [(0, 7, 4, 0)], [(0, 7, 5, 1)], [(1, 0, 24, 0)])
theorem zyw_View_largestFigure : zv_wf zy_View_largestFigure = true := by decide +kernel
theorem zye_View_largestFigure : zv_ek2 zy_View_largestFigure = true := by decide +kernel
def zf_View_largestFigure_l0_b (g0 : (Int → Int)) (rec : Int → Int → Int → Option (Int)) (x1 : Int) (x2 : Int) (x3 : Int) : Option (Int) := if x3 < 24 then (if (zi_and (zi_shr x2 x3) 1) = 0 then (rec x1 x2 (zi_w (x3 + 1))) else ((zf_View_reach x3 (-1) (-1) g0).bind fun r3 => ((zf_Integer_bitCount r3).bind fun r4 => ((zf_Math_max x1 r4).bind fun r5 => (rec r5 (zi_and x2 (zi_xor r3 (-1))) (zi_w (x3 + 1))))))) else (some x1)
def zf_View_largestFigure_l0 (g0 : (Int → Int)) : Nat → Int → Int → Int → Option (Int)
  | 0, _, _, _ => none
  | n + 1, x1, x2, x3 => zf_View_largestFigure_l0_b g0 (zf_View_largestFigure_l0 g0 n) x1 x2 x3
def zf_View_largestFigure (f0 : Int) (g0 : (Int → Int)) : Option (Int) := (zf_View_largestFigure_l0 g0 zi_fu 0 f0 0).bind fun q6 => (some q6)
theorem zd106_0 : decode zxm106.2.1 0 = .ok (.iconst 0, 1) := by decide +kernel
theorem zd106_1 : decode zxm106.2.1 1 = .ok (.istore_n 1, 1) := by decide +kernel
theorem zd106_2 : decode zxm106.2.1 2 = .ok (.aload_n 0, 1) := by decide +kernel
theorem zd106_3 : decode zxm106.2.1 3 = .ok (.getfield 18, 3) := by decide +kernel
theorem zd106_6 : decode zxm106.2.1 6 = .ok (.istore_n 2, 1) := by decide +kernel
theorem zd106_7 : decode zxm106.2.1 7 = .ok (.iconst 0, 1) := by decide +kernel
theorem zd106_8 : decode zxm106.2.1 8 = .ok (.istore_n 3, 1) := by decide +kernel
theorem zd106_9 : decode zxm106.2.1 9 = .ok (.iload_n 3, 1) := by decide +kernel
theorem zd106_10 : decode zxm106.2.1 10 = .ok (.bipush 24, 2) := by decide +kernel
theorem zd106_12 : decode zxm106.2.1 12 = .ok (.if_icmp .ge 43, 3) := by decide +kernel
theorem zd106_15 : decode zxm106.2.1 15 = .ok (.iload_n 2, 1) := by decide +kernel
theorem zd106_16 : decode zxm106.2.1 16 = .ok (.iload_n 3, 1) := by decide +kernel
theorem zd106_17 : decode zxm106.2.1 17 = .ok (.ishr, 1) := by decide +kernel
theorem zd106_18 : decode zxm106.2.1 18 = .ok (.iconst 1, 1) := by decide +kernel
theorem zd106_19 : decode zxm106.2.1 19 = .ok (.iand, 1) := by decide +kernel
theorem zd106_20 : decode zxm106.2.1 20 = .ok (.ifCond .eq 29, 3) := by decide +kernel
theorem zd106_23 : decode zxm106.2.1 23 = .ok (.aload_n 0, 1) := by decide +kernel
theorem zd106_24 : decode zxm106.2.1 24 = .ok (.iload_n 3, 1) := by decide +kernel
theorem zd106_25 : decode zxm106.2.1 25 = .ok (.iconst (-1), 1) := by decide +kernel
theorem zd106_26 : decode zxm106.2.1 26 = .ok (.iconst (-1), 1) := by decide +kernel
theorem zd106_27 : decode zxm106.2.1 27 = .ok (.invokevirtual 139, 3) := by decide +kernel
theorem zd106_30 : decode zxm106.2.1 30 = .ok (.istore 4, 2) := by decide +kernel
theorem zd106_32 : decode zxm106.2.1 32 = .ok (.iload_n 1, 1) := by decide +kernel
theorem zd106_33 : decode zxm106.2.1 33 = .ok (.iload 4, 2) := by decide +kernel
theorem zd106_35 : decode zxm106.2.1 35 = .ok (.invokestatic 131, 3) := by decide +kernel
theorem zd106_38 : decode zxm106.2.1 38 = .ok (.invokestatic 143, 3) := by decide +kernel
theorem zd106_41 : decode zxm106.2.1 41 = .ok (.istore_n 1, 1) := by decide +kernel
theorem zd106_42 : decode zxm106.2.1 42 = .ok (.iload_n 2, 1) := by decide +kernel
theorem zd106_43 : decode zxm106.2.1 43 = .ok (.iload 4, 2) := by decide +kernel
theorem zd106_45 : decode zxm106.2.1 45 = .ok (.iconst (-1), 1) := by decide +kernel
theorem zd106_46 : decode zxm106.2.1 46 = .ok (.ixor, 1) := by decide +kernel
theorem zd106_47 : decode zxm106.2.1 47 = .ok (.iand, 1) := by decide +kernel
theorem zd106_48 : decode zxm106.2.1 48 = .ok (.istore_n 2, 1) := by decide +kernel
theorem zd106_49 : decode zxm106.2.1 49 = .ok (.iinc 3 1, 3) := by decide +kernel
theorem zd106_52 : decode zxm106.2.1 52 = .ok (.goto (-43), 3) := by decide +kernel
theorem zd106_55 : decode zxm106.2.1 55 = .ok (.iload_n 1, 1) := by decide +kernel
theorem zd106_56 : decode zxm106.2.1 56 = .ok (.ireturn, 1) := by decide +kernel
theorem zt_View_largestFigure {f0 : Int} {g0 : (Int → Int)} {o : Int} (h : zf_View_largestFigure f0 g0 = some o) : zv_Fn z_TB z_cl z_KX zy_View_largestFigure zxm106 (3, 180) [.inr 0] [.inl f0] [g0] (some o) [.inl f0] [g0] := zv_meth (K := (z_KF11, z_KC11, z_KL11, z_KT11, [], [], [], none)) (FT := z_FT) (MT := z_MT) (n := 1) zxp106 (z_ks11 _ (fun _ h => List.mem_cons_of_mem _ h) _ _ _ _ (fun j r h _ => by cases h)) (fun _ _ => zs_KX_p) zyw_View_largestFigure (fun va F G h => by obtain ⟨rfl, _⟩ := h; rfl) (fun va F G h => by obtain ⟨rfl, _⟩ := h; rfl) rfl fun good va F G hB hret hvret hP => by
  obtain ⟨rfl, rfl, rfl⟩ := hP
  have l0 : ∀ (n : Nat) (x1 : Int) (x2 : Int) (x3 : Int) (q : Int), zf_View_largestFigure_l0 g0 n x1 x2 x3 = some q → (good 55 [.inr 1000, .inl q, .inr 1000, .inr 1000, .inr 1000] [] [.inl f0] [g0]) → good 9 [.inr 0, .inl x1, .inl x2, .inl x3, .inr 1000] [] [.inl f0] [g0] := by
    intro n
    induction n with
    | zero => intro x1 x2 x3 q h; exact absurd (show none = some q from h) (fun h => by cases h)
    | succ n ih =>
      intro x1 x2 x3 q h hK
      replace h : zf_View_largestFigure_l0_b g0 (zf_View_largestFigure_l0 g0 n) x1 x2 x3 = some q := h
      unfold zf_View_largestFigure_l0_b at h
      refine zv_ild hB zd106_9 rfl rfl ?_
      refine zv_con hB zd106_10 rfl ?_
      refine zv_cge hB zd106_12 rfl (fun hc1 => ?_) (fun hc1 => ?_)
      · rw [if_neg (Int.not_lt.mpr hc1)] at h
        have hq := Option.some.inj h
        subst hq
        refine zv_wk hB (L' := [.inr 1000, .inl x1, .inr 1000, .inr 1000, .inr 1000]) (F' := [.inl f0]) ⟨fun (h : zv_is (.inr 1000)) => (Nat.lt_irrefl 1000 h).elim, fun _ => rfl, fun (h : zv_is (.inr 1000)) => (Nat.lt_irrefl 1000 h).elim, fun (h : zv_is (.inr 1000)) => (Nat.lt_irrefl 1000 h).elim, fun (h : zv_is (.inr 1000)) => (Nat.lt_irrefl 1000 h).elim, trivial⟩ ⟨fun _ => rfl, trivial⟩ ?_
        exact hK
      · rw [if_pos hc1] at h
        refine zv_ild hB zd106_15 rfl rfl ?_
        refine zv_ild hB zd106_16 rfl rfl ?_
        refine zv_shrw hB zd106_17 ?_
        refine zv_con hB zd106_18 rfl ?_
        refine zv_andw hB zd106_19 ?_
        refine zv_zeq hB zd106_20 rfl (fun hc2 => ?_) (fun hc2 => ?_)
        · rw [if_pos hc2] at h
          refine zv_iincw hB zd106_49 rfl rfl ?_
          refine zv_goto hB zd106_52 rfl ?_
          exact ih _ _ _ q h hK
        · rw [if_neg hc2] at h
          refine zv_ald hB zd106_23 rfl rfl rfl ?_
          refine zv_ild hB zd106_24 rfl rfl ?_
          refine zv_con hB zd106_25 rfl ?_
          refine zv_con hB zd106_26 rfl ?_
          obtain ⟨r3, hr3, h⟩ := zi_bind h
          refine zv_cv hB (zv_emq (va2 := [.inr 0, .inl x3, .inl (-1), .inl (-1)]) (F := [.inl f0]) (F' := [.inl f0]) (G := [g0]) (G' := [g0]) (ρ := [0, 1]) (φ := []) (ψ := [0]) [none] [some 0] zyw_View_reach zyw_View_largestFigure zye_View_largestFigure (by decide +kernel) (zt_View_reach hr3) trivial ⟨rfl, trivial⟩ rfl rfl rfl rfl rfl rfl rfl) zd106_27 zxt104 rfl (by decide) (by decide) rfl ?_
          refine zv_ist hB zd106_30 rfl rfl rfl ?_
          refine zv_ild hB zd106_32 rfl rfl ?_
          refine zv_ild hB zd106_33 rfl rfl ?_
          obtain ⟨r4, hr4, h⟩ := zi_bind h
          refine zv_cs hB (zv_emq (va2 := [.inl r3]) (F := [.inl f0]) (F' := [.inl f0]) (G := [g0]) (G' := [g0]) (ρ := []) (φ := []) (ψ := []) [none] [none] zyw_Integer_bitCount zyw_View_largestFigure zye_View_largestFigure (by decide +kernel) (zt_Integer_bitCount hr4) trivial trivial rfl rfl rfl rfl rfl rfl rfl) zd106_35 zxt102 rfl (by decide) (by decide) rfl ?_
          obtain ⟨r5, hr5, h⟩ := zi_bind h
          refine zv_cs hB (zv_emq (va2 := [.inl x1, .inl r4]) (F := [.inl f0]) (F' := [.inl f0]) (G := [g0]) (G' := [g0]) (ρ := []) (φ := []) (ψ := []) [none] [none] zyw_Math_max zyw_View_largestFigure zye_View_largestFigure (by decide +kernel) (zt_Math_max hr5) trivial trivial rfl rfl rfl rfl rfl rfl rfl) zd106_38 zxt55 rfl (by decide) (by decide) rfl ?_
          refine zv_ist hB zd106_41 rfl rfl rfl ?_
          refine zv_ild hB zd106_42 rfl rfl ?_
          refine zv_ild hB zd106_43 rfl rfl ?_
          refine zv_con hB zd106_45 rfl ?_
          refine zv_xorw hB zd106_46 ?_
          refine zv_andw hB zd106_47 ?_
          refine zv_ist hB zd106_48 rfl rfl rfl ?_
          refine zv_iincw hB zd106_49 rfl rfl ?_
          refine zv_goto hB zd106_52 rfl ?_
          refine zv_wk hB (L' := [.inr 0, .inl r5, .inl (zi_and x2 (zi_xor r3 (-1))), .inl (zi_w (x3 + 1)), .inr 1000]) (F' := [.inl f0]) ⟨fun _ => rfl, fun _ => rfl, fun _ => rfl, fun _ => rfl, fun (h : zv_is (.inr 1000)) => (Nat.lt_irrefl 1000 h).elim, trivial⟩ ⟨fun _ => rfl, trivial⟩ ?_
          exact ih _ _ _ q h hK
  unfold zf_View_largestFigure at h
  refine zv_con hB zd106_0 rfl ?_
  refine zv_ist hB zd106_1 rfl rfl rfl ?_
  refine zv_ald hB zd106_2 rfl rfl rfl ?_
  refine zv_getf hB zd106_3 rfl rfl (fun _ _ => ?_)
  refine zv_ist hB zd106_6 rfl rfl rfl ?_
  refine zv_con hB zd106_7 rfl ?_
  refine zv_ist hB zd106_8 rfl rfl rfl ?_
  obtain ⟨q6, hq6, h⟩ := zi_bind h
  refine l0 _ _ _ _ q6 hq6 ?_
  show good 55 [.inr 1000, .inl q6, .inr 1000, .inr 1000, .inr 1000] [] [.inl f0] [g0]
  refine zv_ild hB zd106_55 rfl rfl ?_
  have hw := Option.some.inj h
  subst hw
  exact hret _ _ _ _ _ zd106_56 (by trivial) ⟨rfl, rfl, rfl⟩
/-! View_countHolding ()I -/
-- names: 0 View('arg', 0), 1 (0, 24)(0, 7, 5)
-- fields: ; arrays: g0 = 1; out: [('ret', None)]
abbrev zy_View_countHolding : zNL := (2, [(0, 7)], [], [(0, 7, 5, 1)], [(1, 0, 24, 0)])
theorem zyw_View_countHolding : zv_wf zy_View_countHolding = true := by decide +kernel
theorem zye_View_countHolding : zv_ek2 zy_View_countHolding = true := by decide +kernel
def zf_View_countHolding_l1_b (x2 : Int) (g0 : (Int → Int)) (rec : Int → Int → Option (Int)) (x1 : Int) (x3 : Int) : Option (Int) := if x3 < 24 then (cond (zi_ix x2 24) (if (zi_and (zi_shr (g0 x2) x3) 1) = 0 then (rec x1 (zi_w (x3 + 1))) else ((zf_View_reach x2 x2 x3 g0).bind fun r5 => (if (zi_and (zi_shr r5 x3) 1) = 0 then (rec (zi_w (x1 + 1)) (zi_w (x3 + 1))) else (rec x1 (zi_w (x3 + 1)))))) none) else (some x1)
def zf_View_countHolding_l1 (x2 : Int) (g0 : (Int → Int)) : Nat → Int → Int → Option (Int)
  | 0, _, _ => none
  | n + 1, x1, x3 => zf_View_countHolding_l1_b x2 g0 (zf_View_countHolding_l1 x2 g0 n) x1 x3
def zf_View_countHolding_l0_b (g0 : (Int → Int)) (rec : Int → Int → Option (Int)) (x1 : Int) (x2 : Int) : Option (Int) := if x2 < 24 then ((zf_View_countHolding_l1 x2 g0 zi_fu x1 (zi_w (x2 + 1))).bind fun q7 => (rec q7 (zi_w (x2 + 1)))) else (some x1)
def zf_View_countHolding_l0 (g0 : (Int → Int)) : Nat → Int → Int → Option (Int)
  | 0, _, _ => none
  | n + 1, x1, x2 => zf_View_countHolding_l0_b g0 (zf_View_countHolding_l0 g0 n) x1 x2
def zf_View_countHolding (g0 : (Int → Int)) : Option (Int) := (zf_View_countHolding_l0 g0 zi_fu 0 0).bind fun q8 => (some q8)
theorem zd107_0 : decode zxm107.2.1 0 = .ok (.iconst 0, 1) := by decide +kernel
theorem zd107_1 : decode zxm107.2.1 1 = .ok (.istore_n 1, 1) := by decide +kernel
theorem zd107_2 : decode zxm107.2.1 2 = .ok (.iconst 0, 1) := by decide +kernel
theorem zd107_3 : decode zxm107.2.1 3 = .ok (.istore_n 2, 1) := by decide +kernel
theorem zd107_4 : decode zxm107.2.1 4 = .ok (.iload_n 2, 1) := by decide +kernel
theorem zd107_5 : decode zxm107.2.1 5 = .ok (.bipush 24, 2) := by decide +kernel
theorem zd107_7 : decode zxm107.2.1 7 = .ok (.if_icmp .ge 55, 3) := by decide +kernel
theorem zd107_10 : decode zxm107.2.1 10 = .ok (.iload_n 2, 1) := by decide +kernel
theorem zd107_11 : decode zxm107.2.1 11 = .ok (.iconst 1, 1) := by decide +kernel
theorem zd107_12 : decode zxm107.2.1 12 = .ok (.iadd, 1) := by decide +kernel
theorem zd107_13 : decode zxm107.2.1 13 = .ok (.istore_n 3, 1) := by decide +kernel
theorem zd107_14 : decode zxm107.2.1 14 = .ok (.iload_n 3, 1) := by decide +kernel
theorem zd107_15 : decode zxm107.2.1 15 = .ok (.bipush 24, 2) := by decide +kernel
theorem zd107_17 : decode zxm107.2.1 17 = .ok (.if_icmp .ge 39, 3) := by decide +kernel
theorem zd107_20 : decode zxm107.2.1 20 = .ok (.aload_n 0, 1) := by decide +kernel
theorem zd107_21 : decode zxm107.2.1 21 = .ok (.getfield 21, 3) := by decide +kernel
theorem zd107_24 : decode zxm107.2.1 24 = .ok (.iload_n 2, 1) := by decide +kernel
theorem zd107_25 : decode zxm107.2.1 25 = .ok (.iaload, 1) := by decide +kernel
theorem zd107_26 : decode zxm107.2.1 26 = .ok (.iload_n 3, 1) := by decide +kernel
theorem zd107_27 : decode zxm107.2.1 27 = .ok (.ishr, 1) := by decide +kernel
theorem zd107_28 : decode zxm107.2.1 28 = .ok (.iconst 1, 1) := by decide +kernel
theorem zd107_29 : decode zxm107.2.1 29 = .ok (.iand, 1) := by decide +kernel
theorem zd107_30 : decode zxm107.2.1 30 = .ok (.ifCond .eq 20, 3) := by decide +kernel
theorem zd107_33 : decode zxm107.2.1 33 = .ok (.aload_n 0, 1) := by decide +kernel
theorem zd107_34 : decode zxm107.2.1 34 = .ok (.iload_n 2, 1) := by decide +kernel
theorem zd107_35 : decode zxm107.2.1 35 = .ok (.iload_n 2, 1) := by decide +kernel
theorem zd107_36 : decode zxm107.2.1 36 = .ok (.iload_n 3, 1) := by decide +kernel
theorem zd107_37 : decode zxm107.2.1 37 = .ok (.invokevirtual 139, 3) := by decide +kernel
theorem zd107_40 : decode zxm107.2.1 40 = .ok (.iload_n 3, 1) := by decide +kernel
theorem zd107_41 : decode zxm107.2.1 41 = .ok (.ishr, 1) := by decide +kernel
theorem zd107_42 : decode zxm107.2.1 42 = .ok (.iconst 1, 1) := by decide +kernel
theorem zd107_43 : decode zxm107.2.1 43 = .ok (.iand, 1) := by decide +kernel
theorem zd107_44 : decode zxm107.2.1 44 = .ok (.ifCond .ne 6, 3) := by decide +kernel
theorem zd107_47 : decode zxm107.2.1 47 = .ok (.iinc 1 1, 3) := by decide +kernel
theorem zd107_50 : decode zxm107.2.1 50 = .ok (.iinc 3 1, 3) := by decide +kernel
theorem zd107_53 : decode zxm107.2.1 53 = .ok (.goto (-39), 3) := by decide +kernel
theorem zd107_56 : decode zxm107.2.1 56 = .ok (.iinc 2 1, 3) := by decide +kernel
theorem zd107_59 : decode zxm107.2.1 59 = .ok (.goto (-55), 3) := by decide +kernel
theorem zd107_62 : decode zxm107.2.1 62 = .ok (.iload_n 1, 1) := by decide +kernel
theorem zd107_63 : decode zxm107.2.1 63 = .ok (.ireturn, 1) := by decide +kernel
theorem zt_View_countHolding {g0 : (Int → Int)} {o : Int} (h : zf_View_countHolding g0 = some o) : zv_Fn z_TB z_cl z_KX zy_View_countHolding zxm107 (3, 180) [.inr 0] [] [g0] (some o) [] [g0] := zv_meth (K := (z_KF11, z_KC11, z_KL11, z_KT11, [], [], [], none)) (FT := z_FT) (MT := z_MT) (n := 1) zxp107 (z_ks11 _ (fun _ h => List.mem_cons_of_mem _ h) _ _ _ _ (fun j r h _ => by cases h)) (fun _ _ => zs_KX_p) zyw_View_countHolding (fun va F G h => by obtain ⟨rfl, _⟩ := h; rfl) (fun va F G h => by obtain ⟨rfl, _⟩ := h; rfl) rfl fun good va F G hB hret hvret hP => by
  obtain ⟨rfl, rfl, rfl⟩ := hP
  have l1 : ∀ (n : Nat) (x1 : Int) (x2 : Int) (x3 : Int) (q : Int), zf_View_countHolding_l1 x2 g0 n x1 x3 = some q → (good 56 [.inr 0, .inl q, .inl x2, .inr 1000] [] [] [g0]) → good 14 [.inr 0, .inl x1, .inl x2, .inl x3] [] [] [g0] := by
    intro n
    induction n with
    | zero => intro x1 x2 x3 q h; exact absurd (show none = some q from h) (fun h => by cases h)
    | succ n ih =>
      intro x1 x2 x3 q h hK
      replace h : zf_View_countHolding_l1_b x2 g0 (zf_View_countHolding_l1 x2 g0 n) x1 x3 = some q := h
      unfold zf_View_countHolding_l1_b at h
      refine zv_ild hB zd107_14 rfl rfl ?_
      refine zv_con hB zd107_15 rfl ?_
      refine zv_cge hB zd107_17 rfl (fun hc2 => ?_) (fun hc2 => ?_)
      · rw [if_neg (Int.not_lt.mpr hc2)] at h
        have hq := Option.some.inj h
        subst hq
        refine zv_wk hB (L' := [.inr 0, .inl x1, .inl x2, .inr 1000]) (F' := []) ⟨fun _ => rfl, fun _ => rfl, fun _ => rfl, fun (h : zv_is (.inr 1000)) => (Nat.lt_irrefl 1000 h).elim, trivial⟩ trivial ?_
        exact hK
      · rw [if_pos hc2] at h
        refine zv_ald hB zd107_20 rfl rfl rfl ?_
        refine zv_getr hB zd107_21 rfl ?_
        refine zv_ild hB zd107_24 rfl rfl ?_
        obtain ⟨c3, h⟩ := zi_if h
        refine zv_iald hB zd107_25 rfl rfl (zi_ix_ok c3).1 (zi_ix_ok c3).2 (fun _ _ => ?_)
        refine zv_ild hB zd107_26 rfl rfl ?_
        refine zv_shrw hB zd107_27 ?_
        refine zv_con hB zd107_28 rfl ?_
        refine zv_andw hB zd107_29 ?_
        refine zv_zeq hB zd107_30 rfl (fun hc4 => ?_) (fun hc4 => ?_)
        · rw [if_pos hc4] at h
          refine zv_iincw hB zd107_50 rfl rfl ?_
          refine zv_goto hB zd107_53 rfl ?_
          exact ih _ _ _ q h hK
        · rw [if_neg hc4] at h
          refine zv_ald hB zd107_33 rfl rfl rfl ?_
          refine zv_ild hB zd107_34 rfl rfl ?_
          refine zv_ild hB zd107_35 rfl rfl ?_
          refine zv_ild hB zd107_36 rfl rfl ?_
          obtain ⟨r5, hr5, h⟩ := zi_bind h
          refine zv_cv hB (zv_emq (va2 := [.inr 0, .inl x2, .inl x2, .inl x3]) (F := []) (F' := []) (G := [g0]) (G' := [g0]) (ρ := [0, 1]) (φ := []) (ψ := [0]) [] [some 0] zyw_View_reach zyw_View_countHolding zye_View_countHolding (by decide +kernel) (zt_View_reach hr5) trivial ⟨rfl, trivial⟩ rfl rfl rfl rfl rfl rfl rfl) zd107_37 zxt104 rfl (by decide) (by decide) rfl ?_
          refine zv_ild hB zd107_40 rfl rfl ?_
          refine zv_shrw hB zd107_41 ?_
          refine zv_con hB zd107_42 rfl ?_
          refine zv_andw hB zd107_43 ?_
          refine zv_zne hB zd107_44 rfl (fun hc6 => ?_) (fun hc6 => ?_)
          · rw [if_neg hc6] at h
            refine zv_iincw hB zd107_50 rfl rfl ?_
            refine zv_goto hB zd107_53 rfl ?_
            exact ih _ _ _ q h hK
          · rw [if_pos hc6] at h
            refine zv_iincw hB zd107_47 rfl rfl ?_
            refine zv_iincw hB zd107_50 rfl rfl ?_
            refine zv_goto hB zd107_53 rfl ?_
            exact ih _ _ _ q h hK
  have l0 : ∀ (n : Nat) (x1 : Int) (x2 : Int) (q : Int), zf_View_countHolding_l0 g0 n x1 x2 = some q → (good 62 [.inr 1000, .inl q, .inr 1000, .inr 1000] [] [] [g0]) → good 4 [.inr 0, .inl x1, .inl x2, .inr 1000] [] [] [g0] := by
    intro n
    induction n with
    | zero => intro x1 x2 q h; exact absurd (show none = some q from h) (fun h => by cases h)
    | succ n ih =>
      intro x1 x2 q h hK
      replace h : zf_View_countHolding_l0_b g0 (zf_View_countHolding_l0 g0 n) x1 x2 = some q := h
      unfold zf_View_countHolding_l0_b at h
      refine zv_ild hB zd107_4 rfl rfl ?_
      refine zv_con hB zd107_5 rfl ?_
      refine zv_cge hB zd107_7 rfl (fun hc1 => ?_) (fun hc1 => ?_)
      · rw [if_neg (Int.not_lt.mpr hc1)] at h
        have hq := Option.some.inj h
        subst hq
        refine zv_wk hB (L' := [.inr 1000, .inl x1, .inr 1000, .inr 1000]) (F' := []) ⟨fun (h : zv_is (.inr 1000)) => (Nat.lt_irrefl 1000 h).elim, fun _ => rfl, fun (h : zv_is (.inr 1000)) => (Nat.lt_irrefl 1000 h).elim, fun (h : zv_is (.inr 1000)) => (Nat.lt_irrefl 1000 h).elim, trivial⟩ trivial ?_
        exact hK
      · rw [if_pos hc1] at h
        refine zv_ild hB zd107_10 rfl rfl ?_
        refine zv_con hB zd107_11 rfl ?_
        refine zv_addw hB zd107_12 ?_
        refine zv_ist hB zd107_13 rfl rfl rfl ?_
        obtain ⟨q7, hq7, h⟩ := zi_bind h
        refine l1 _ _ _ _ q7 hq7 ?_
        show good 56 [.inr 0, .inl q7, .inl x2, .inr 1000] [] [] [g0]
        refine zv_iincw hB zd107_56 rfl rfl ?_
        refine zv_goto hB zd107_59 rfl ?_
        exact ih _ _ q h hK
  unfold zf_View_countHolding at h
  refine zv_con hB zd107_0 rfl ?_
  refine zv_ist hB zd107_1 rfl rfl rfl ?_
  refine zv_con hB zd107_2 rfl ?_
  refine zv_ist hB zd107_3 rfl rfl rfl ?_
  obtain ⟨q8, hq8, h⟩ := zi_bind h
  refine l0 _ _ _ q8 hq8 ?_
  show good 62 [.inr 1000, .inl q8, .inr 1000, .inr 1000] [] [] [g0]
  refine zv_ild hB zd107_62 rfl rfl ?_
  have hw := Option.some.inj h
  subst hw
  exact hret _ _ _ _ _ zd107_63 (by trivial) ⟨rfl, rfl, rfl⟩
/-! View_legsOf (I)I -/
-- names: 0 View('arg', 0), 1 (0, 24)(0, 7, 5)
-- fields: ; arrays: g0 = 1; out: [('ret', None)]
abbrev zy_View_legsOf : zNL := (2, [(0, 7)], [], [(0, 7, 5, 1)], [(1, 0, 24, 0)])
theorem zyw_View_legsOf : zv_wf zy_View_legsOf = true := by decide +kernel
theorem zye_View_legsOf : zv_ek2 zy_View_legsOf = true := by decide +kernel
def zf_View_legsOf (x1 : Int) (g0 : (Int → Int)) : Option (Int) := if x1 = (-1) then (some 0) else (cond (zi_ix x1 24) ((zf_Integer_bitCount (g0 x1)).bind fun r3 => (some r3)) none)
theorem zd109_0 : decode zxm109.2.1 0 = .ok (.iload_n 1, 1) := by decide +kernel
theorem zd109_1 : decode zxm109.2.1 1 = .ok (.iconst (-1), 1) := by decide +kernel
theorem zd109_2 : decode zxm109.2.1 2 = .ok (.if_icmp .ne 7, 3) := by decide +kernel
theorem zd109_5 : decode zxm109.2.1 5 = .ok (.iconst 0, 1) := by decide +kernel
theorem zd109_6 : decode zxm109.2.1 6 = .ok (.goto 12, 3) := by decide +kernel
theorem zd109_9 : decode zxm109.2.1 9 = .ok (.aload_n 0, 1) := by decide +kernel
theorem zd109_10 : decode zxm109.2.1 10 = .ok (.getfield 21, 3) := by decide +kernel
theorem zd109_13 : decode zxm109.2.1 13 = .ok (.iload_n 1, 1) := by decide +kernel
theorem zd109_14 : decode zxm109.2.1 14 = .ok (.iaload, 1) := by decide +kernel
theorem zd109_15 : decode zxm109.2.1 15 = .ok (.invokestatic 131, 3) := by decide +kernel
theorem zd109_18 : decode zxm109.2.1 18 = .ok (.ireturn, 1) := by decide +kernel
theorem zt_View_legsOf {x1 : Int} {g0 : (Int → Int)} {o : Int} (h : zf_View_legsOf x1 g0 = some o) : zv_Fn z_TB z_cl z_KX zy_View_legsOf zxm109 (1, 60) [.inr 0, .inl x1] [] [g0] (some o) [] [g0] := zv_meth (K := (z_KF11, z_KC11, z_KL11, z_KT11, [], [], [], none)) (FT := z_FT) (MT := z_MT) (n := 2) zxp109 (z_ks11 _ (fun _ h => List.mem_cons_of_mem _ h) _ _ _ _ (fun j r h _ => by cases h)) (fun _ _ => zs_KX_p) zyw_View_legsOf (fun va F G h => by obtain ⟨rfl, _⟩ := h; rfl) (fun va F G h => by obtain ⟨rfl, _⟩ := h; rfl) rfl fun good va F G hB hret hvret hP => by
  obtain ⟨rfl, rfl, rfl⟩ := hP
  unfold zf_View_legsOf at h
  refine zv_ild hB zd109_0 rfl rfl ?_
  refine zv_con hB zd109_1 rfl ?_
  refine zv_cne hB zd109_2 rfl (fun hc1 => ?_) (fun hc1 => ?_)
  · rw [if_neg hc1] at h
    refine zv_ald hB zd109_9 rfl rfl rfl ?_
    refine zv_getr hB zd109_10 rfl ?_
    refine zv_ild hB zd109_13 rfl rfl ?_
    obtain ⟨c2, h⟩ := zi_if h
    refine zv_iald hB zd109_14 rfl rfl (zi_ix_ok c2).1 (zi_ix_ok c2).2 (fun _ _ => ?_)
    obtain ⟨r3, hr3, h⟩ := zi_bind h
    refine zv_cs hB (zv_emq (va2 := [.inl (g0 x1)]) (F := []) (F' := []) (G := [g0]) (G' := [g0]) (ρ := []) (φ := []) (ψ := []) [] [none] zyw_Integer_bitCount zyw_View_legsOf zye_View_legsOf (by decide +kernel) (zt_Integer_bitCount hr3) trivial trivial rfl rfl rfl rfl rfl rfl rfl) zd109_15 zxt102 rfl (by decide) (by decide) rfl ?_
    have hw := Option.some.inj h
    subst hw
    exact hret _ _ _ _ _ zd109_18 (by trivial) ⟨rfl, rfl, rfl⟩
  · rw [if_pos hc1] at h
    refine zv_con hB zd109_5 rfl ?_
    refine zv_goto hB zd109_6 rfl ?_
    have hw := Option.some.inj h
    subst hw
    exact hret _ _ _ _ _ zd109_18 (by trivial) ⟨rfl, rfl, rfl⟩
/-! View_mostLegged ()I -/
-- names: 0 View('arg', 0), 1 (0, 24)(0, 7, 5)
-- fields: f0 = 0.shown_; arrays: g0 = 1; out: [('ret', None)]
abbrev zy_View_mostLegged : zNL := (2, [(0, 7)], [(0, 7, 4, 0)], [(0, 7, 5, 1)], [(1, 0, 24, 0)])
theorem zyw_View_mostLegged : zv_wf zy_View_mostLegged = true := by decide +kernel
theorem zye_View_mostLegged : zv_ek2 zy_View_mostLegged = true := by decide +kernel
def zf_View_mostLegged_l0_b (f0 : Int) (g0 : (Int → Int)) (rec : Int → Int → Option (Int)) (x1 : Int) (x2 : Int) : Option (Int) := if x2 < 24 then (if (zi_and (zi_shr f0 x2) 1) = 0 then (rec x1 (zi_w (x2 + 1))) else (if x1 = (-1) then (rec x2 (zi_w (x2 + 1))) else ((zf_View_legsOf x2 g0).bind fun r4 => ((zf_View_legsOf x1 g0).bind fun r5 => (if r5 < r4 then (rec x2 (zi_w (x2 + 1))) else (rec x1 (zi_w (x2 + 1)))))))) else (some x1)
def zf_View_mostLegged_l0 (f0 : Int) (g0 : (Int → Int)) : Nat → Int → Int → Option (Int)
  | 0, _, _ => none
  | n + 1, x1, x2 => zf_View_mostLegged_l0_b f0 g0 (zf_View_mostLegged_l0 f0 g0 n) x1 x2
def zf_View_mostLegged (f0 : Int) (g0 : (Int → Int)) : Option (Int) := (zf_View_mostLegged_l0 f0 g0 zi_fu (-1) 0).bind fun q7 => (some q7)
theorem zd108_0 : decode zxm108.2.1 0 = .ok (.iconst (-1), 1) := by decide +kernel
theorem zd108_1 : decode zxm108.2.1 1 = .ok (.istore_n 1, 1) := by decide +kernel
theorem zd108_2 : decode zxm108.2.1 2 = .ok (.iconst 0, 1) := by decide +kernel
theorem zd108_3 : decode zxm108.2.1 3 = .ok (.istore_n 2, 1) := by decide +kernel
theorem zd108_4 : decode zxm108.2.1 4 = .ok (.iload_n 2, 1) := by decide +kernel
theorem zd108_5 : decode zxm108.2.1 5 = .ok (.bipush 24, 2) := by decide +kernel
theorem zd108_7 : decode zxm108.2.1 7 = .ok (.if_icmp .ge 40, 3) := by decide +kernel
theorem zd108_10 : decode zxm108.2.1 10 = .ok (.aload_n 0, 1) := by decide +kernel
theorem zd108_11 : decode zxm108.2.1 11 = .ok (.getfield 18, 3) := by decide +kernel
theorem zd108_14 : decode zxm108.2.1 14 = .ok (.iload_n 2, 1) := by decide +kernel
theorem zd108_15 : decode zxm108.2.1 15 = .ok (.ishr, 1) := by decide +kernel
theorem zd108_16 : decode zxm108.2.1 16 = .ok (.iconst 1, 1) := by decide +kernel
theorem zd108_17 : decode zxm108.2.1 17 = .ok (.iand, 1) := by decide +kernel
theorem zd108_18 : decode zxm108.2.1 18 = .ok (.ifCond .eq 23, 3) := by decide +kernel
theorem zd108_21 : decode zxm108.2.1 21 = .ok (.iload_n 1, 1) := by decide +kernel
theorem zd108_22 : decode zxm108.2.1 22 = .ok (.iconst (-1), 1) := by decide +kernel
theorem zd108_23 : decode zxm108.2.1 23 = .ok (.if_icmp .eq 16, 3) := by decide +kernel
theorem zd108_26 : decode zxm108.2.1 26 = .ok (.aload_n 0, 1) := by decide +kernel
theorem zd108_27 : decode zxm108.2.1 27 = .ok (.iload_n 2, 1) := by decide +kernel
theorem zd108_28 : decode zxm108.2.1 28 = .ok (.invokevirtual 146, 3) := by decide +kernel
theorem zd108_31 : decode zxm108.2.1 31 = .ok (.aload_n 0, 1) := by decide +kernel
theorem zd108_32 : decode zxm108.2.1 32 = .ok (.iload_n 1, 1) := by decide +kernel
theorem zd108_33 : decode zxm108.2.1 33 = .ok (.invokevirtual 146, 3) := by decide +kernel
theorem zd108_36 : decode zxm108.2.1 36 = .ok (.if_icmp .le 5, 3) := by decide +kernel
theorem zd108_39 : decode zxm108.2.1 39 = .ok (.iload_n 2, 1) := by decide +kernel
theorem zd108_40 : decode zxm108.2.1 40 = .ok (.istore_n 1, 1) := by decide +kernel
theorem zd108_41 : decode zxm108.2.1 41 = .ok (.iinc 2 1, 3) := by decide +kernel
theorem zd108_44 : decode zxm108.2.1 44 = .ok (.goto (-40), 3) := by decide +kernel
theorem zd108_47 : decode zxm108.2.1 47 = .ok (.iload_n 1, 1) := by decide +kernel
theorem zd108_48 : decode zxm108.2.1 48 = .ok (.ireturn, 1) := by decide +kernel
theorem zt_View_mostLegged {f0 : Int} {g0 : (Int → Int)} {o : Int} (h : zf_View_mostLegged f0 g0 = some o) : zv_Fn z_TB z_cl z_KX zy_View_mostLegged zxm108 (2, 120) [.inr 0] [.inl f0] [g0] (some o) [.inl f0] [g0] := zv_meth (K := (z_KF11, z_KC11, z_KL11, z_KT11, [], [], [], none)) (FT := z_FT) (MT := z_MT) (n := 1) zxp108 (z_ks11 _ (fun _ h => List.mem_cons_of_mem _ h) _ _ _ _ (fun j r h _ => by cases h)) (fun _ _ => zs_KX_p) zyw_View_mostLegged (fun va F G h => by obtain ⟨rfl, _⟩ := h; rfl) (fun va F G h => by obtain ⟨rfl, _⟩ := h; rfl) rfl fun good va F G hB hret hvret hP => by
  obtain ⟨rfl, rfl, rfl⟩ := hP
  have l0 : ∀ (n : Nat) (x1 : Int) (x2 : Int) (q : Int), zf_View_mostLegged_l0 f0 g0 n x1 x2 = some q → (good 47 [.inr 1000, .inl q, .inr 1000] [] [.inl f0] [g0]) → good 4 [.inr 0, .inl x1, .inl x2] [] [.inl f0] [g0] := by
    intro n
    induction n with
    | zero => intro x1 x2 q h; exact absurd (show none = some q from h) (fun h => by cases h)
    | succ n ih =>
      intro x1 x2 q h hK
      replace h : zf_View_mostLegged_l0_b f0 g0 (zf_View_mostLegged_l0 f0 g0 n) x1 x2 = some q := h
      unfold zf_View_mostLegged_l0_b at h
      refine zv_ild hB zd108_4 rfl rfl ?_
      refine zv_con hB zd108_5 rfl ?_
      refine zv_cge hB zd108_7 rfl (fun hc1 => ?_) (fun hc1 => ?_)
      · rw [if_neg (Int.not_lt.mpr hc1)] at h
        have hq := Option.some.inj h
        subst hq
        refine zv_wk hB (L' := [.inr 1000, .inl x1, .inr 1000]) (F' := [.inl f0]) ⟨fun (h : zv_is (.inr 1000)) => (Nat.lt_irrefl 1000 h).elim, fun _ => rfl, fun (h : zv_is (.inr 1000)) => (Nat.lt_irrefl 1000 h).elim, trivial⟩ ⟨fun _ => rfl, trivial⟩ ?_
        exact hK
      · rw [if_pos hc1] at h
        refine zv_ald hB zd108_10 rfl rfl rfl ?_
        refine zv_getf hB zd108_11 rfl rfl (fun _ _ => ?_)
        refine zv_ild hB zd108_14 rfl rfl ?_
        refine zv_shrw hB zd108_15 ?_
        refine zv_con hB zd108_16 rfl ?_
        refine zv_andw hB zd108_17 ?_
        refine zv_zeq hB zd108_18 rfl (fun hc2 => ?_) (fun hc2 => ?_)
        · rw [if_pos hc2] at h
          refine zv_iincw hB zd108_41 rfl rfl ?_
          refine zv_goto hB zd108_44 rfl ?_
          exact ih _ _ q h hK
        · rw [if_neg hc2] at h
          refine zv_ild hB zd108_21 rfl rfl ?_
          refine zv_con hB zd108_22 rfl ?_
          refine zv_ceq hB zd108_23 rfl (fun hc3 => ?_) (fun hc3 => ?_)
          · rw [if_pos hc3] at h
            refine zv_ild hB zd108_39 rfl rfl ?_
            refine zv_ist hB zd108_40 rfl rfl rfl ?_
            refine zv_iincw hB zd108_41 rfl rfl ?_
            refine zv_goto hB zd108_44 rfl ?_
            exact ih _ _ q h hK
          · rw [if_neg hc3] at h
            refine zv_ald hB zd108_26 rfl rfl rfl ?_
            refine zv_ild hB zd108_27 rfl rfl ?_
            obtain ⟨r4, hr4, h⟩ := zi_bind h
            refine zv_cv hB (zv_emq (va2 := [.inr 0, .inl x2]) (F := [.inl f0]) (F' := [.inl f0]) (G := [g0]) (G' := [g0]) (ρ := [0, 1]) (φ := []) (ψ := [0]) [none] [some 0] zyw_View_legsOf zyw_View_mostLegged zye_View_mostLegged (by decide +kernel) (zt_View_legsOf hr4) trivial ⟨rfl, trivial⟩ rfl rfl rfl rfl rfl rfl rfl) zd108_28 zxt109 rfl (by decide) (by decide) rfl ?_
            refine zv_ald hB zd108_31 rfl rfl rfl ?_
            refine zv_ild hB zd108_32 rfl rfl ?_
            obtain ⟨r5, hr5, h⟩ := zi_bind h
            refine zv_cv hB (zv_emq (va2 := [.inr 0, .inl x1]) (F := [.inl f0]) (F' := [.inl f0]) (G := [g0]) (G' := [g0]) (ρ := [0, 1]) (φ := []) (ψ := [0]) [none] [some 0] zyw_View_legsOf zyw_View_mostLegged zye_View_mostLegged (by decide +kernel) (zt_View_legsOf hr5) trivial ⟨rfl, trivial⟩ rfl rfl rfl rfl rfl rfl rfl) zd108_33 zxt109 rfl (by decide) (by decide) rfl ?_
            refine zv_cle hB zd108_36 rfl (fun hc6 => ?_) (fun hc6 => ?_)
            · rw [if_neg (Int.not_lt.mpr hc6)] at h
              refine zv_iincw hB zd108_41 rfl rfl ?_
              refine zv_goto hB zd108_44 rfl ?_
              exact ih _ _ q h hK
            · rw [if_pos hc6] at h
              refine zv_ild hB zd108_39 rfl rfl ?_
              refine zv_ist hB zd108_40 rfl rfl rfl ?_
              refine zv_iincw hB zd108_41 rfl rfl ?_
              refine zv_goto hB zd108_44 rfl ?_
              exact ih _ _ q h hK
  unfold zf_View_mostLegged at h
  refine zv_con hB zd108_0 rfl ?_
  refine zv_ist hB zd108_1 rfl rfl rfl ?_
  refine zv_con hB zd108_2 rfl ?_
  refine zv_ist hB zd108_3 rfl rfl rfl ?_
  obtain ⟨q7, hq7, h⟩ := zi_bind h
  refine l0 _ _ _ q7 hq7 ?_
  show good 47 [.inr 1000, .inl q7, .inr 1000] [] [.inl f0] [g0]
  refine zv_ild hB zd108_47 rfl rfl ?_
  have hw := Option.some.inj h
  subst hw
  exact hret _ _ _ _ _ zd108_48 (by trivial) ⟨rfl, rfl, rfl⟩
/-! X_sky (III)I -/
-- names: 0 StarTales('arg', 0), 1 View(0, 0, 12), 2 Sky(0, 0, 0), 3 Law(0, 0, 7), 4 (0, 24)(1, 7, 8), 5 (0, 13)(3, 4, 12), 6 (0, 24)(2, 1, 1), 7 (0, 24)(2, 1, 2), 8 (0, 24)(2, 1, 3), 9 (0, 14)(3, 4, 3), 10 (0, 14)(3, 4, 5), 11 (0, 14)(3, 4, 6), 12 (0, 200)(3, 4, 0), 13 (0, 40)(3, 4, 13), 14 (0, 200)(3, 4, 1), 15 (0, 24)(1, 7, 5), 16 (0, 24)(1, 7, 9)
-- fields: f0 = 0.ruling_, f1 = 1.sky_, f2 = 1.law_, f3 = 1.starsAsked_, f4 = 1.x_, f5 = 1.y_, f6 = 2.hour_, f7 = 2.night_, f8 = 1.shown_, f9 = 2.told_, f10 = 2.sightColumns_, f11 = 2.sightRows_, f12 = 2.clouds_, f13 = 3.tellsSeen_, f14 = 1.starsHold_, f15 = 3.clauses_, f16 = 3.answer_, f17 = 3.seenByPlace_, f18 = 3.tellsLines_, f19 = 3.linesByPlace_; arrays: g0 = 4, g1 = 5, g2 = 6, g3 = 7, g4 = 8, g5 = 9, g6 = 10, g7 = 11, g8 = 12, g9 = 13, g10 = 14, g11 = 15, g12 = 16; out: [('ret', None), ('f', 3), ('f', 4), ('f', 5), ('f', 8), ('f', 14), ('f', 16), ('g', 0), ('g', 1), ('g', 9), ('g', 11), ('g', 12)]
abbrev zy_X_sky : zNL := (17, [(0, 0), (1, 7), (2, 1), (3, 4)], [(0, 0, 7, 0), (1, 7, 0, 1), (1, 7, 1, 2), (1, 7, 6, 3), (1, 7, 2, 4), (1, 7, 3, 5), (2, 1, 6, 6), (2, 1, 7, 7), (1, 7, 4, 8), (2, 1, 0, 9), (2, 1, 9, 10), (2, 1, 10, 11), (2, 1, 8, 12), (3, 4, 8, 13), (1, 7, 7, 14), (3, 4, 7, 15), (3, 4, 14, 16), (3, 4, 10, 17), (3, 4, 9, 18), (3, 4, 11, 19)], [(0, 0, 12, 1), (0, 0, 0, 2), (1, 7, 8, 4), (3, 4, 12, 5), (2, 1, 1, 6), (2, 1, 2, 7), (2, 1, 3, 8), (3, 4, 3, 9), (3, 4, 5, 10), (3, 4, 6, 11), (3, 4, 0, 12), (3, 4, 13, 13), (3, 4, 1, 14), (1, 7, 5, 15), (1, 7, 9, 16)], [(4, 0, 24, 0), (5, 0, 13, 1), (6, 0, 24, 2), (7, 0, 24, 3), (8, 0, 24, 4), (9, 0, 14, 5), (10, 0, 14, 6), (11, 0, 14, 7), (12, 0, 200, 8), (13, 0, 40, 9), (14, 0, 200, 10), (15, 0, 24, 11), (16, 0, 24, 12)])
theorem zyw_X_sky : zv_wf zy_X_sky = true := by decide +kernel
theorem zye_X_sky : zv_ek2 zy_X_sky = true := by decide +kernel
def zf_X_sky (x1 : Int) (x2 : Int) (x3 : Int) (f3 : Int) (f4 : Int) (f5 : Int) (f6 : Int) (f7 : Int) (f8 : Int) (f9 : Int) (f10 : Int) (f11 : Int) (f12 : Int) (f13 : Int) (f14 : Int) (f15 : Int) (f16 : Int) (f17 : Int) (f18 : Int) (f19 : Int) (g0 : (Int → Int)) (g1 : (Int → Int)) (g2 : (Int → Int)) (g3 : (Int → Int)) (g4 : (Int → Int)) (g5 : (Int → Int)) (g6 : (Int → Int)) (g7 : (Int → Int)) (g8 : (Int → Int)) (g9 : (Int → Int)) (g10 : (Int → Int)) (g11 : (Int → Int)) (g12 : (Int → Int)) : Option (Int × Int × Int × Int × Int × Int × Int × (Int → Int) × (Int → Int) × (Int → Int) × (Int → Int) × (Int → Int)) := (zf_X_isPlace x1 x2).bind fun r1 => (if r1 = 0 then (some ((-1), f3, f4, f5, f8, f14, f16, g0, g1, g9, g11, g12)) else ((zf_X_isWithin x3 0 6).bind fun r3 => (if r3 = 0 then (some ((-1), f3, f4, f5, f8, f14, f16, g0, g1, g9, g11, g12)) else ((zf_X_lookAndDraw x1 x2 f3 f4 f5 f6 f7 f8 f9 f10 f11 f12 f13 f14 f15 f16 f17 f18 f19 g0 g1 g2 g3 g4 g5 g6 g7 g8 g9 g10 g11 g12).bind fun r5 => ((zf_View_countLines r5.2.2.2.2.2.2.2.2.2.1).bind fun r6 => (if x3 = 0 then (some (r6, r5.1, r5.2.1, r5.2.2.1, r5.2.2.2.1, r5.2.2.2.2.1, r5.2.2.2.2.2.1, r5.2.2.2.2.2.2.1, r5.2.2.2.2.2.2.2.1, r5.2.2.2.2.2.2.2.2.1, r5.2.2.2.2.2.2.2.2.2.1, r5.2.2.2.2.2.2.2.2.2.2)) else (if x3 = 1 then ((zf_View_countFigures r5.2.2.2.1 r5.2.2.2.2.2.2.2.2.2.1).bind fun r9 => (some (r9, r5.1, r5.2.1, r5.2.2.1, r5.2.2.2.1, r5.2.2.2.2.1, r5.2.2.2.2.2.1, r5.2.2.2.2.2.2.1, r5.2.2.2.2.2.2.2.1, r5.2.2.2.2.2.2.2.2.1, r5.2.2.2.2.2.2.2.2.2.1, r5.2.2.2.2.2.2.2.2.2.2))) else (if x3 = 2 then ((zf_View_largestFigure r5.2.2.2.1 r5.2.2.2.2.2.2.2.2.2.1).bind fun r11 => (some (r11, r5.1, r5.2.1, r5.2.2.1, r5.2.2.2.1, r5.2.2.2.2.1, r5.2.2.2.2.2.1, r5.2.2.2.2.2.2.1, r5.2.2.2.2.2.2.2.1, r5.2.2.2.2.2.2.2.2.1, r5.2.2.2.2.2.2.2.2.2.1, r5.2.2.2.2.2.2.2.2.2.2))) else (if x3 = 3 then ((zf_Integer_bitCount r5.2.2.2.1).bind fun r13 => ((zf_View_countFigures r5.2.2.2.1 r5.2.2.2.2.2.2.2.2.2.1).bind fun r14 => (some ((zi_w ((zi_w (r6 - r13)) + r14)), r5.1, r5.2.1, r5.2.2.1, r5.2.2.2.1, r5.2.2.2.2.1, r5.2.2.2.2.2.1, r5.2.2.2.2.2.2.1, r5.2.2.2.2.2.2.2.1, r5.2.2.2.2.2.2.2.2.1, r5.2.2.2.2.2.2.2.2.2.1, r5.2.2.2.2.2.2.2.2.2.2)))) else (if x3 = 4 then ((zf_View_countHolding r5.2.2.2.2.2.2.2.2.2.1).bind fun r16 => (some (r16, r5.1, r5.2.1, r5.2.2.1, r5.2.2.2.1, r5.2.2.2.2.1, r5.2.2.2.2.2.1, r5.2.2.2.2.2.2.1, r5.2.2.2.2.2.2.2.1, r5.2.2.2.2.2.2.2.2.1, r5.2.2.2.2.2.2.2.2.2.1, r5.2.2.2.2.2.2.2.2.2.2))) else (if x3 = 5 then ((zf_View_mostLegged r5.2.2.2.1 r5.2.2.2.2.2.2.2.2.2.1).bind fun r18 => (some (r18, r5.1, r5.2.1, r5.2.2.1, r5.2.2.2.1, r5.2.2.2.2.1, r5.2.2.2.2.2.1, r5.2.2.2.2.2.2.1, r5.2.2.2.2.2.2.2.1, r5.2.2.2.2.2.2.2.2.1, r5.2.2.2.2.2.2.2.2.2.1, r5.2.2.2.2.2.2.2.2.2.2))) else ((zf_View_mostLegged r5.2.2.2.1 r5.2.2.2.2.2.2.2.2.2.1).bind fun r19 => ((zf_View_legsOf r19 r5.2.2.2.2.2.2.2.2.2.1).bind fun r20 => (some (r20, r5.1, r5.2.1, r5.2.2.1, r5.2.2.2.1, r5.2.2.2.2.1, r5.2.2.2.2.2.1, r5.2.2.2.2.2.2.1, r5.2.2.2.2.2.2.2.1, r5.2.2.2.2.2.2.2.2.1, r5.2.2.2.2.2.2.2.2.2.1, r5.2.2.2.2.2.2.2.2.2.2)))))))))))))))
theorem zd100_0 : decode zxm100.2.1 0 = .ok (.iload_n 1, 1) := by decide +kernel
theorem zd100_1 : decode zxm100.2.1 1 = .ok (.iload_n 2, 1) := by decide +kernel
theorem zd100_2 : decode zxm100.2.1 2 = .ok (.invokestatic 130, 3) := by decide +kernel
theorem zd100_5 : decode zxm100.2.1 5 = .ok (.ifCond .eq 13, 3) := by decide +kernel
theorem zd100_8 : decode zxm100.2.1 8 = .ok (.iload_n 3, 1) := by decide +kernel
theorem zd100_9 : decode zxm100.2.1 9 = .ok (.iconst 0, 1) := by decide +kernel
theorem zd100_10 : decode zxm100.2.1 10 = .ok (.bipush 6, 2) := by decide +kernel
theorem zd100_12 : decode zxm100.2.1 12 = .ok (.invokestatic 126, 3) := by decide +kernel
theorem zd100_15 : decode zxm100.2.1 15 = .ok (.ifCond .ne 5, 3) := by decide +kernel
theorem zd100_18 : decode zxm100.2.1 18 = .ok (.iconst (-1), 1) := by decide +kernel
theorem zd100_19 : decode zxm100.2.1 19 = .ok (.ireturn, 1) := by decide +kernel
theorem zd100_20 : decode zxm100.2.1 20 = .ok (.aload_n 0, 1) := by decide +kernel
theorem zd100_21 : decode zxm100.2.1 21 = .ok (.aload_n 0, 1) := by decide +kernel
theorem zd100_22 : decode zxm100.2.1 22 = .ok (.getfield 81, 3) := by decide +kernel
theorem zd100_25 : decode zxm100.2.1 25 = .ok (.iload_n 1, 1) := by decide +kernel
theorem zd100_26 : decode zxm100.2.1 26 = .ok (.iload_n 2, 1) := by decide +kernel
theorem zd100_27 : decode zxm100.2.1 27 = .ok (.invokevirtual 221, 3) := by decide +kernel
theorem zd100_30 : decode zxm100.2.1 30 = .ok (.aload_n 0, 1) := by decide +kernel
theorem zd100_31 : decode zxm100.2.1 31 = .ok (.getfield 81, 3) := by decide +kernel
theorem zd100_34 : decode zxm100.2.1 34 = .ok (.invokevirtual 225, 3) := by decide +kernel
theorem zd100_37 : decode zxm100.2.1 37 = .ok (.istore 4, 2) := by decide +kernel
theorem zd100_39 : decode zxm100.2.1 39 = .ok (.iload_n 3, 1) := by decide +kernel
theorem zd100_40 : decode zxm100.2.1 40 = .ok (.tableswitch 97 0 5 #[40, 43, 51, 59, 81, 89], 40) := by decide +kernel
theorem zd100_80 : decode zxm100.2.1 80 = .ok (.iload 4, 2) := by decide +kernel
theorem zd100_82 : decode zxm100.2.1 82 = .ok (.ireturn, 1) := by decide +kernel
theorem zd100_83 : decode zxm100.2.1 83 = .ok (.aload_n 0, 1) := by decide +kernel
theorem zd100_84 : decode zxm100.2.1 84 = .ok (.getfield 81, 3) := by decide +kernel
theorem zd100_87 : decode zxm100.2.1 87 = .ok (.invokevirtual 229, 3) := by decide +kernel
theorem zd100_90 : decode zxm100.2.1 90 = .ok (.ireturn, 1) := by decide +kernel
theorem zd100_91 : decode zxm100.2.1 91 = .ok (.aload_n 0, 1) := by decide +kernel
theorem zd100_92 : decode zxm100.2.1 92 = .ok (.getfield 81, 3) := by decide +kernel
theorem zd100_95 : decode zxm100.2.1 95 = .ok (.invokevirtual 232, 3) := by decide +kernel
theorem zd100_98 : decode zxm100.2.1 98 = .ok (.ireturn, 1) := by decide +kernel
theorem zd100_99 : decode zxm100.2.1 99 = .ok (.iload 4, 2) := by decide +kernel
theorem zd100_101 : decode zxm100.2.1 101 = .ok (.aload_n 0, 1) := by decide +kernel
theorem zd100_102 : decode zxm100.2.1 102 = .ok (.getfield 81, 3) := by decide +kernel
theorem zd100_105 : decode zxm100.2.1 105 = .ok (.getfield 218, 3) := by decide +kernel
theorem zd100_108 : decode zxm100.2.1 108 = .ok (.invokestatic 235, 3) := by decide +kernel
theorem zd100_111 : decode zxm100.2.1 111 = .ok (.isub, 1) := by decide +kernel
theorem zd100_112 : decode zxm100.2.1 112 = .ok (.aload_n 0, 1) := by decide +kernel
theorem zd100_113 : decode zxm100.2.1 113 = .ok (.getfield 81, 3) := by decide +kernel
theorem zd100_116 : decode zxm100.2.1 116 = .ok (.invokevirtual 229, 3) := by decide +kernel
theorem zd100_119 : decode zxm100.2.1 119 = .ok (.iadd, 1) := by decide +kernel
theorem zd100_120 : decode zxm100.2.1 120 = .ok (.ireturn, 1) := by decide +kernel
theorem zd100_121 : decode zxm100.2.1 121 = .ok (.aload_n 0, 1) := by decide +kernel
theorem zd100_122 : decode zxm100.2.1 122 = .ok (.getfield 81, 3) := by decide +kernel
theorem zd100_125 : decode zxm100.2.1 125 = .ok (.invokevirtual 240, 3) := by decide +kernel
theorem zd100_128 : decode zxm100.2.1 128 = .ok (.ireturn, 1) := by decide +kernel
theorem zd100_129 : decode zxm100.2.1 129 = .ok (.aload_n 0, 1) := by decide +kernel
theorem zd100_130 : decode zxm100.2.1 130 = .ok (.getfield 81, 3) := by decide +kernel
theorem zd100_133 : decode zxm100.2.1 133 = .ok (.invokevirtual 243, 3) := by decide +kernel
theorem zd100_136 : decode zxm100.2.1 136 = .ok (.ireturn, 1) := by decide +kernel
theorem zd100_137 : decode zxm100.2.1 137 = .ok (.aload_n 0, 1) := by decide +kernel
theorem zd100_138 : decode zxm100.2.1 138 = .ok (.getfield 81, 3) := by decide +kernel
theorem zd100_141 : decode zxm100.2.1 141 = .ok (.aload_n 0, 1) := by decide +kernel
theorem zd100_142 : decode zxm100.2.1 142 = .ok (.getfield 81, 3) := by decide +kernel
theorem zd100_145 : decode zxm100.2.1 145 = .ok (.invokevirtual 243, 3) := by decide +kernel
theorem zd100_148 : decode zxm100.2.1 148 = .ok (.invokevirtual 246, 3) := by decide +kernel
theorem zd100_151 : decode zxm100.2.1 151 = .ok (.ireturn, 1) := by decide +kernel
theorem zt_X_sky {x1 : Int} {x2 : Int} {x3 : Int} {f3 : Int} {f4 : Int} {f5 : Int} {f6 : Int} {f7 : Int} {f8 : Int} {f9 : Int} {f10 : Int} {f11 : Int} {f12 : Int} {f13 : Int} {f14 : Int} {f15 : Int} {f16 : Int} {f17 : Int} {f18 : Int} {f19 : Int} {g0 : (Int → Int)} {g1 : (Int → Int)} {g2 : (Int → Int)} {g3 : (Int → Int)} {g4 : (Int → Int)} {g5 : (Int → Int)} {g6 : (Int → Int)} {g7 : (Int → Int)} {g8 : (Int → Int)} {g9 : (Int → Int)} {g10 : (Int → Int)} {g11 : (Int → Int)} {g12 : (Int → Int)} {o : Int × Int × Int × Int × Int × Int × Int × (Int → Int) × (Int → Int) × (Int → Int) × (Int → Int) × (Int → Int)} (h : zf_X_sky x1 x2 x3 f3 f4 f5 f6 f7 f8 f9 f10 f11 f12 f13 f14 f15 f16 f17 f18 f19 g0 g1 g2 g3 g4 g5 g6 g7 g8 g9 g10 g11 g12 = some o) : zv_Fn z_TB z_cl z_KX zy_X_sky zxm100 (6, 360) [.inr 0, .inl x1, .inl x2, .inl x3] [.inr 3, .inr 1000, .inr 1000, .inl f3, .inl f4, .inl f5, .inl f6, .inl f7, .inl f8, .inl f9, .inl f10, .inl f11, .inl f12, .inl f13, .inl f14, .inl f15, .inl f16, .inl f17, .inl f18, .inl f19] [g0, g1, g2, g3, g4, g5, g6, g7, g8, g9, g10, g11, g12] (some o.1) [.inr 3, .inr 1000, .inr 1000, .inl o.2.1, .inl o.2.2.1, .inl o.2.2.2.1, .inl f6, .inl f7, .inl o.2.2.2.2.1, .inl f9, .inl f10, .inl f11, .inl f12, .inl f13, .inl o.2.2.2.2.2.1, .inl f15, .inl o.2.2.2.2.2.2.1, .inl f17, .inl f18, .inl f19] [o.2.2.2.2.2.2.2.1, o.2.2.2.2.2.2.2.2.1, g2, g3, g4, g5, g6, g7, g8, o.2.2.2.2.2.2.2.2.2.1, g10, o.2.2.2.2.2.2.2.2.2.2.1, o.2.2.2.2.2.2.2.2.2.2.2] := zv_meth (K := (z_KF0, z_KC0, z_KL0, z_KT0, [], [], [], none)) (FT := z_FT) (MT := z_MT) (n := 4) zxp100 (z_ks0 _ (fun _ h => List.mem_cons_of_mem _ h) _ _ _ _ (fun j r h _ => by cases h)) (fun _ _ => zs_KX_p) zyw_X_sky (fun va F G h => by obtain ⟨rfl, _⟩ := h; rfl) (fun va F G h => by obtain ⟨rfl, _⟩ := h; rfl) rfl fun good va F G hB hret hvret hP => by
  obtain ⟨rfl, rfl, rfl⟩ := hP
  unfold zf_X_sky at h
  refine zv_ild hB zd100_0 rfl rfl ?_
  refine zv_ild hB zd100_1 rfl rfl ?_
  obtain ⟨r1, hr1, h⟩ := zi_bind h
  refine zv_cs hB (zv_emq (va2 := [.inl x1, .inl x2]) (F := [.inr 3, .inr 1000, .inr 1000, .inl f3, .inl f4, .inl f5, .inl f6, .inl f7, .inl f8, .inl f9, .inl f10, .inl f11, .inl f12, .inl f13, .inl f14, .inl f15, .inl f16, .inl f17, .inl f18, .inl f19]) (F' := [.inr 3, .inr 1000, .inr 1000, .inl f3, .inl f4, .inl f5, .inl f6, .inl f7, .inl f8, .inl f9, .inl f10, .inl f11, .inl f12, .inl f13, .inl f14, .inl f15, .inl f16, .inl f17, .inl f18, .inl f19]) (G := [g0, g1, g2, g3, g4, g5, g6, g7, g8, g9, g10, g11, g12]) (G' := [g0, g1, g2, g3, g4, g5, g6, g7, g8, g9, g10, g11, g12]) (ρ := []) (φ := []) (ψ := []) [none, none, none, none, none, none, none, none, none, none, none, none, none, none, none, none, none, none, none, none] [none, none, none, none, none, none, none, none, none, none, none, none, none] zyw_X_isPlace zyw_X_sky zye_X_sky (by decide +kernel) (zt_X_isPlace hr1) trivial trivial rfl rfl rfl rfl rfl rfl rfl) zd100_2 zxt16 rfl (by decide) (by decide) rfl ?_
  refine zv_zeq hB zd100_5 rfl (fun hc2 => ?_) (fun hc2 => ?_)
  · rw [if_pos hc2] at h
    refine zv_con hB zd100_18 rfl ?_
    have hw := Option.some.inj h
    subst hw
    exact hret _ _ _ _ _ zd100_19 (by trivial) ⟨rfl, rfl, rfl⟩
  · rw [if_neg hc2] at h
    refine zv_ild hB zd100_8 rfl rfl ?_
    refine zv_con hB zd100_9 rfl ?_
    refine zv_con hB zd100_10 rfl ?_
    obtain ⟨r3, hr3, h⟩ := zi_bind h
    refine zv_cs hB (zv_emq (va2 := [.inl x3, .inl 0, .inl 6]) (F := [.inr 3, .inr 1000, .inr 1000, .inl f3, .inl f4, .inl f5, .inl f6, .inl f7, .inl f8, .inl f9, .inl f10, .inl f11, .inl f12, .inl f13, .inl f14, .inl f15, .inl f16, .inl f17, .inl f18, .inl f19]) (F' := [.inr 3, .inr 1000, .inr 1000, .inl f3, .inl f4, .inl f5, .inl f6, .inl f7, .inl f8, .inl f9, .inl f10, .inl f11, .inl f12, .inl f13, .inl f14, .inl f15, .inl f16, .inl f17, .inl f18, .inl f19]) (G := [g0, g1, g2, g3, g4, g5, g6, g7, g8, g9, g10, g11, g12]) (G' := [g0, g1, g2, g3, g4, g5, g6, g7, g8, g9, g10, g11, g12]) (ρ := []) (φ := []) (ψ := []) [none, none, none, none, none, none, none, none, none, none, none, none, none, none, none, none, none, none, none, none] [none, none, none, none, none, none, none, none, none, none, none, none, none] zyw_X_isWithin zyw_X_sky zye_X_sky (by decide +kernel) (zt_X_isWithin hr3) trivial trivial rfl rfl rfl rfl rfl rfl rfl) zd100_12 zxt15 rfl (by decide) (by decide) rfl ?_
    refine zv_zne hB zd100_15 rfl (fun hc4 => ?_) (fun hc4 => ?_)
    · rw [if_neg hc4] at h
      refine zv_ald hB zd100_20 rfl rfl rfl ?_
      refine zv_ald hB zd100_21 rfl rfl rfl ?_
      refine zv_getr hB zd100_22 rfl ?_
      refine zv_ild hB zd100_25 rfl rfl ?_
      refine zv_ild hB zd100_26 rfl rfl ?_
      obtain ⟨r5, hr5, h⟩ := zi_bind h
      refine zv_cv hB (zv_emq (va2 := [.inr 0, .inr 1, .inl x1, .inl x2]) (F := [.inr 3, .inr 1000, .inr 1000, .inl f3, .inl f4, .inl f5, .inl f6, .inl f7, .inl f8, .inl f9, .inl f10, .inl f11, .inl f12, .inl f13, .inl f14, .inl f15, .inl f16, .inl f17, .inl f18, .inl f19]) (F' := [.inr 3, .inr 2, .inr 3, .inl r5.1, .inl r5.2.1, .inl r5.2.2.1, .inl f6, .inl f7, .inl r5.2.2.2.1, .inl f9, .inl f10, .inl f11, .inl f12, .inl f13, .inl r5.2.2.2.2.1, .inl f15, .inl r5.2.2.2.2.2.1, .inl f17, .inl f18, .inl f19]) (G := [g0, g1, g2, g3, g4, g5, g6, g7, g8, g9, g10, g11, g12]) (G' := [r5.2.2.2.2.2.2.1, r5.2.2.2.2.2.2.2.1, g2, g3, g4, g5, g6, g7, g8, r5.2.2.2.2.2.2.2.2.1, g10, r5.2.2.2.2.2.2.2.2.2.1, r5.2.2.2.2.2.2.2.2.2.2]) (ρ := [0, 1, 2, 3, 4, 5, 6, 7, 8, 9, 10, 11, 12, 13, 14, 15, 16]) (φ := [0, 1, 2, 3, 4, 5, 6, 7, 8, 9, 10, 11, 12, 13, 14, 15, 16, 17, 18, 19]) (ψ := [0, 1, 2, 3, 4, 5, 6, 7, 8, 9, 10, 11, 12]) [some 0, some 1, some 2, some 3, some 4, some 5, some 6, some 7, some 8, some 9, some 10, some 11, some 12, some 13, some 14, some 15, some 16, some 17, some 18, some 19] [some 0, some 1, some 2, some 3, some 4, some 5, some 6, some 7, some 8, some 9, some 10, some 11, some 12] zyw_X_lookAndDraw zyw_X_sky zye_X_sky (by decide +kernel) (zt_X_lookAndDraw hr5) ⟨⟨_, rfl, fun _ => rfl⟩, ⟨_, rfl, fun (h : zv_is (.inr 1000)) => (Nat.lt_irrefl 1000 h).elim⟩, ⟨_, rfl, fun (h : zv_is (.inr 1000)) => (Nat.lt_irrefl 1000 h).elim⟩, ⟨_, rfl, fun _ => rfl⟩, ⟨_, rfl, fun _ => rfl⟩, ⟨_, rfl, fun _ => rfl⟩, ⟨_, rfl, fun _ => rfl⟩, ⟨_, rfl, fun _ => rfl⟩, ⟨_, rfl, fun _ => rfl⟩, ⟨_, rfl, fun _ => rfl⟩, ⟨_, rfl, fun _ => rfl⟩, ⟨_, rfl, fun _ => rfl⟩, ⟨_, rfl, fun _ => rfl⟩, ⟨_, rfl, fun _ => rfl⟩, ⟨_, rfl, fun _ => rfl⟩, ⟨_, rfl, fun _ => rfl⟩, ⟨_, rfl, fun _ => rfl⟩, ⟨_, rfl, fun _ => rfl⟩, ⟨_, rfl, fun _ => rfl⟩, ⟨_, rfl, fun _ => rfl⟩, trivial⟩ ⟨rfl, rfl, rfl, rfl, rfl, rfl, rfl, rfl, rfl, rfl, rfl, rfl, rfl, trivial⟩ rfl rfl rfl rfl rfl rfl rfl) zd100_27 zxt96 rfl (by decide) (by decide) rfl ?_
      refine zv_ald hB zd100_30 rfl rfl rfl ?_
      refine zv_getr hB zd100_31 rfl ?_
      obtain ⟨r6, hr6, h⟩ := zi_bind h
      refine zv_cv hB (zv_emq (va2 := [.inr 1]) (F := [.inr 3, .inr 2, .inr 3, .inl r5.1, .inl r5.2.1, .inl r5.2.2.1, .inl f6, .inl f7, .inl r5.2.2.2.1, .inl f9, .inl f10, .inl f11, .inl f12, .inl f13, .inl r5.2.2.2.2.1, .inl f15, .inl r5.2.2.2.2.2.1, .inl f17, .inl f18, .inl f19]) (F' := [.inr 3, .inr 2, .inr 3, .inl r5.1, .inl r5.2.1, .inl r5.2.2.1, .inl f6, .inl f7, .inl r5.2.2.2.1, .inl f9, .inl f10, .inl f11, .inl f12, .inl f13, .inl r5.2.2.2.2.1, .inl f15, .inl r5.2.2.2.2.2.1, .inl f17, .inl f18, .inl f19]) (G := [r5.2.2.2.2.2.2.1, r5.2.2.2.2.2.2.2.1, g2, g3, g4, g5, g6, g7, g8, r5.2.2.2.2.2.2.2.2.1, g10, r5.2.2.2.2.2.2.2.2.2.1, r5.2.2.2.2.2.2.2.2.2.2]) (G' := [r5.2.2.2.2.2.2.1, r5.2.2.2.2.2.2.2.1, g2, g3, g4, g5, g6, g7, g8, r5.2.2.2.2.2.2.2.2.1, g10, r5.2.2.2.2.2.2.2.2.2.1, r5.2.2.2.2.2.2.2.2.2.2]) (ρ := [1, 15]) (φ := []) (ψ := [11]) [none, none, none, none, none, none, none, none, none, none, none, none, none, none, none, none, none, none, none, none] [none, none, none, none, none, none, none, none, none, none, none, some 0, none] zyw_View_countLines zyw_X_sky zye_X_sky (by decide +kernel) (zt_View_countLines hr6) trivial ⟨rfl, trivial⟩ rfl rfl rfl rfl rfl rfl rfl) zd100_34 zxt101 rfl (by decide) (by decide) rfl ?_
      refine zv_ist hB zd100_37 rfl rfl rfl ?_
      refine zv_ild hB zd100_39 rfl rfl ?_
      refine zv_tsw hB zd100_40 rfl ?_
      refine ⟨fun hc7 => ⟨_, rfl, ?_⟩, fun hc7 => ?_⟩
      · replace hc7 : x3 = 0 := hc7
        rw [if_pos hc7] at h
        refine zv_ild hB zd100_80 rfl rfl ?_
        have hw := Option.some.inj h
        refine zv_wk hB (L' := [.inr 0, .inl x1, .inl x2, .inl x3, .inl r6]) (F' := [.inr 3, .inr 1000, .inr 1000, .inl r5.1, .inl r5.2.1, .inl r5.2.2.1, .inl f6, .inl f7, .inl r5.2.2.2.1, .inl f9, .inl f10, .inl f11, .inl f12, .inl f13, .inl r5.2.2.2.2.1, .inl f15, .inl r5.2.2.2.2.2.1, .inl f17, .inl f18, .inl f19]) ⟨fun _ => rfl, fun _ => rfl, fun _ => rfl, fun _ => rfl, fun _ => rfl, trivial⟩ ⟨fun _ => rfl, fun (h : zv_is (.inr 1000)) => (Nat.lt_irrefl 1000 h).elim, fun (h : zv_is (.inr 1000)) => (Nat.lt_irrefl 1000 h).elim, fun _ => rfl, fun _ => rfl, fun _ => rfl, fun _ => rfl, fun _ => rfl, fun _ => rfl, fun _ => rfl, fun _ => rfl, fun _ => rfl, fun _ => rfl, fun _ => rfl, fun _ => rfl, fun _ => rfl, fun _ => rfl, fun _ => rfl, fun _ => rfl, fun _ => rfl, trivial⟩ ?_
        subst hw
        exact hret _ _ _ _ _ zd100_82 (by trivial) ⟨rfl, rfl, rfl⟩
      replace hc7 : x3 ≠ 0 := hc7
      rw [if_neg hc7] at h
      refine ⟨fun hc8 => ⟨_, rfl, ?_⟩, fun hc8 => ?_⟩
      · replace hc8 : x3 = 1 := hc8
        rw [if_pos hc8] at h
        refine zv_ald hB zd100_83 rfl rfl rfl ?_
        refine zv_getr hB zd100_84 rfl ?_
        obtain ⟨r9, hr9, h⟩ := zi_bind h
        refine zv_cv hB (zv_emq (va2 := [.inr 1]) (F := [.inr 3, .inr 2, .inr 3, .inl r5.1, .inl r5.2.1, .inl r5.2.2.1, .inl f6, .inl f7, .inl r5.2.2.2.1, .inl f9, .inl f10, .inl f11, .inl f12, .inl f13, .inl r5.2.2.2.2.1, .inl f15, .inl r5.2.2.2.2.2.1, .inl f17, .inl f18, .inl f19]) (F' := [.inr 3, .inr 2, .inr 3, .inl r5.1, .inl r5.2.1, .inl r5.2.2.1, .inl f6, .inl f7, .inl r5.2.2.2.1, .inl f9, .inl f10, .inl f11, .inl f12, .inl f13, .inl r5.2.2.2.2.1, .inl f15, .inl r5.2.2.2.2.2.1, .inl f17, .inl f18, .inl f19]) (G := [r5.2.2.2.2.2.2.1, r5.2.2.2.2.2.2.2.1, g2, g3, g4, g5, g6, g7, g8, r5.2.2.2.2.2.2.2.2.1, g10, r5.2.2.2.2.2.2.2.2.2.1, r5.2.2.2.2.2.2.2.2.2.2]) (G' := [r5.2.2.2.2.2.2.1, r5.2.2.2.2.2.2.2.1, g2, g3, g4, g5, g6, g7, g8, r5.2.2.2.2.2.2.2.2.1, g10, r5.2.2.2.2.2.2.2.2.2.1, r5.2.2.2.2.2.2.2.2.2.2]) (ρ := [1, 15]) (φ := [8]) (ψ := [11]) [none, none, none, none, none, none, none, none, some 0, none, none, none, none, none, none, none, none, none, none, none] [none, none, none, none, none, none, none, none, none, none, none, some 0, none] zyw_View_countFigures zyw_X_sky zye_X_sky (by decide +kernel) (zt_View_countFigures hr9) ⟨⟨_, rfl, fun _ => rfl⟩, trivial⟩ ⟨rfl, trivial⟩ rfl rfl rfl rfl rfl rfl rfl) zd100_87 zxt103 rfl (by decide) (by decide) rfl ?_
        have hw := Option.some.inj h
        refine zv_wk hB (L' := [.inr 0, .inl x1, .inl x2, .inl x3, .inl r6]) (F' := [.inr 3, .inr 1000, .inr 1000, .inl r5.1, .inl r5.2.1, .inl r5.2.2.1, .inl f6, .inl f7, .inl r5.2.2.2.1, .inl f9, .inl f10, .inl f11, .inl f12, .inl f13, .inl r5.2.2.2.2.1, .inl f15, .inl r5.2.2.2.2.2.1, .inl f17, .inl f18, .inl f19]) ⟨fun _ => rfl, fun _ => rfl, fun _ => rfl, fun _ => rfl, fun _ => rfl, trivial⟩ ⟨fun _ => rfl, fun (h : zv_is (.inr 1000)) => (Nat.lt_irrefl 1000 h).elim, fun (h : zv_is (.inr 1000)) => (Nat.lt_irrefl 1000 h).elim, fun _ => rfl, fun _ => rfl, fun _ => rfl, fun _ => rfl, fun _ => rfl, fun _ => rfl, fun _ => rfl, fun _ => rfl, fun _ => rfl, fun _ => rfl, fun _ => rfl, fun _ => rfl, fun _ => rfl, fun _ => rfl, fun _ => rfl, fun _ => rfl, fun _ => rfl, trivial⟩ ?_
        subst hw
        exact hret _ _ _ _ _ zd100_90 (by trivial) ⟨rfl, rfl, rfl⟩
      replace hc8 : x3 ≠ 1 := hc8
      rw [if_neg hc8] at h
      refine ⟨fun hc10 => ⟨_, rfl, ?_⟩, fun hc10 => ?_⟩
      · replace hc10 : x3 = 2 := hc10
        rw [if_pos hc10] at h
        refine zv_ald hB zd100_91 rfl rfl rfl ?_
        refine zv_getr hB zd100_92 rfl ?_
        obtain ⟨r11, hr11, h⟩ := zi_bind h
        refine zv_cv hB (zv_emq (va2 := [.inr 1]) (F := [.inr 3, .inr 2, .inr 3, .inl r5.1, .inl r5.2.1, .inl r5.2.2.1, .inl f6, .inl f7, .inl r5.2.2.2.1, .inl f9, .inl f10, .inl f11, .inl f12, .inl f13, .inl r5.2.2.2.2.1, .inl f15, .inl r5.2.2.2.2.2.1, .inl f17, .inl f18, .inl f19]) (F' := [.inr 3, .inr 2, .inr 3, .inl r5.1, .inl r5.2.1, .inl r5.2.2.1, .inl f6, .inl f7, .inl r5.2.2.2.1, .inl f9, .inl f10, .inl f11, .inl f12, .inl f13, .inl r5.2.2.2.2.1, .inl f15, .inl r5.2.2.2.2.2.1, .inl f17, .inl f18, .inl f19]) (G := [r5.2.2.2.2.2.2.1, r5.2.2.2.2.2.2.2.1, g2, g3, g4, g5, g6, g7, g8, r5.2.2.2.2.2.2.2.2.1, g10, r5.2.2.2.2.2.2.2.2.2.1, r5.2.2.2.2.2.2.2.2.2.2]) (G' := [r5.2.2.2.2.2.2.1, r5.2.2.2.2.2.2.2.1, g2, g3, g4, g5, g6, g7, g8, r5.2.2.2.2.2.2.2.2.1, g10, r5.2.2.2.2.2.2.2.2.2.1, r5.2.2.2.2.2.2.2.2.2.2]) (ρ := [1, 15]) (φ := [8]) (ψ := [11]) [none, none, none, none, none, none, none, none, some 0, none, none, none, none, none, none, none, none, none, none, none] [none, none, none, none, none, none, none, none, none, none, none, some 0, none] zyw_View_largestFigure zyw_X_sky zye_X_sky (by decide +kernel) (zt_View_largestFigure hr11) ⟨⟨_, rfl, fun _ => rfl⟩, trivial⟩ ⟨rfl, trivial⟩ rfl rfl rfl rfl rfl rfl rfl) zd100_95 zxt106 rfl (by decide) (by decide) rfl ?_
        have hw := Option.some.inj h
        refine zv_wk hB (L' := [.inr 0, .inl x1, .inl x2, .inl x3, .inl r6]) (F' := [.inr 3, .inr 1000, .inr 1000, .inl r5.1, .inl r5.2.1, .inl r5.2.2.1, .inl f6, .inl f7, .inl r5.2.2.2.1, .inl f9, .inl f10, .inl f11, .inl f12, .inl f13, .inl r5.2.2.2.2.1, .inl f15, .inl r5.2.2.2.2.2.1, .inl f17, .inl f18, .inl f19]) ⟨fun _ => rfl, fun _ => rfl, fun _ => rfl, fun _ => rfl, fun _ => rfl, trivial⟩ ⟨fun _ => rfl, fun (h : zv_is (.inr 1000)) => (Nat.lt_irrefl 1000 h).elim, fun (h : zv_is (.inr 1000)) => (Nat.lt_irrefl 1000 h).elim, fun _ => rfl, fun _ => rfl, fun _ => rfl, fun _ => rfl, fun _ => rfl, fun _ => rfl, fun _ => rfl, fun _ => rfl, fun _ => rfl, fun _ => rfl, fun _ => rfl, fun _ => rfl, fun _ => rfl, fun _ => rfl, fun _ => rfl, fun _ => rfl, fun _ => rfl, trivial⟩ ?_
        subst hw
        exact hret _ _ _ _ _ zd100_98 (by trivial) ⟨rfl, rfl, rfl⟩
      replace hc10 : x3 ≠ 2 := hc10
      rw [if_neg hc10] at h
      refine ⟨fun hc12 => ⟨_, rfl, ?_⟩, fun hc12 => ?_⟩
      · replace hc12 : x3 = 3 := hc12
        rw [if_pos hc12] at h
        refine zv_ild hB zd100_99 rfl rfl ?_
        refine zv_ald hB zd100_101 rfl rfl rfl ?_
        refine zv_getr hB zd100_102 rfl ?_
        refine zv_getf hB zd100_105 rfl rfl (fun _ _ => ?_)
        obtain ⟨r13, hr13, h⟩ := zi_bind h
        refine zv_cs hB (zv_emq (va2 := [.inl r5.2.2.2.1]) (F := [.inr 3, .inr 2, .inr 3, .inl r5.1, .inl r5.2.1, .inl r5.2.2.1, .inl f6, .inl f7, .inl r5.2.2.2.1, .inl f9, .inl f10, .inl f11, .inl f12, .inl f13, .inl r5.2.2.2.2.1, .inl f15, .inl r5.2.2.2.2.2.1, .inl f17, .inl f18, .inl f19]) (F' := [.inr 3, .inr 2, .inr 3, .inl r5.1, .inl r5.2.1, .inl r5.2.2.1, .inl f6, .inl f7, .inl r5.2.2.2.1, .inl f9, .inl f10, .inl f11, .inl f12, .inl f13, .inl r5.2.2.2.2.1, .inl f15, .inl r5.2.2.2.2.2.1, .inl f17, .inl f18, .inl f19]) (G := [r5.2.2.2.2.2.2.1, r5.2.2.2.2.2.2.2.1, g2, g3, g4, g5, g6, g7, g8, r5.2.2.2.2.2.2.2.2.1, g10, r5.2.2.2.2.2.2.2.2.2.1, r5.2.2.2.2.2.2.2.2.2.2]) (G' := [r5.2.2.2.2.2.2.1, r5.2.2.2.2.2.2.2.1, g2, g3, g4, g5, g6, g7, g8, r5.2.2.2.2.2.2.2.2.1, g10, r5.2.2.2.2.2.2.2.2.2.1, r5.2.2.2.2.2.2.2.2.2.2]) (ρ := []) (φ := []) (ψ := []) [none, none, none, none, none, none, none, none, none, none, none, none, none, none, none, none, none, none, none, none] [none, none, none, none, none, none, none, none, none, none, none, none, none] zyw_Integer_bitCount zyw_X_sky zye_X_sky (by decide +kernel) (zt_Integer_bitCount hr13) trivial trivial rfl rfl rfl rfl rfl rfl rfl) zd100_108 zxt102 rfl (by decide) (by decide) rfl ?_
        refine zv_subw hB zd100_111 ?_
        refine zv_ald hB zd100_112 rfl rfl rfl ?_
        refine zv_getr hB zd100_113 rfl ?_
        obtain ⟨r14, hr14, h⟩ := zi_bind h
        refine zv_cv hB (zv_emq (va2 := [.inr 1]) (F := [.inr 3, .inr 2, .inr 3, .inl r5.1, .inl r5.2.1, .inl r5.2.2.1, .inl f6, .inl f7, .inl r5.2.2.2.1, .inl f9, .inl f10, .inl f11, .inl f12, .inl f13, .inl r5.2.2.2.2.1, .inl f15, .inl r5.2.2.2.2.2.1, .inl f17, .inl f18, .inl f19]) (F' := [.inr 3, .inr 2, .inr 3, .inl r5.1, .inl r5.2.1, .inl r5.2.2.1, .inl f6, .inl f7, .inl r5.2.2.2.1, .inl f9, .inl f10, .inl f11, .inl f12, .inl f13, .inl r5.2.2.2.2.1, .inl f15, .inl r5.2.2.2.2.2.1, .inl f17, .inl f18, .inl f19]) (G := [r5.2.2.2.2.2.2.1, r5.2.2.2.2.2.2.2.1, g2, g3, g4, g5, g6, g7, g8, r5.2.2.2.2.2.2.2.2.1, g10, r5.2.2.2.2.2.2.2.2.2.1, r5.2.2.2.2.2.2.2.2.2.2]) (G' := [r5.2.2.2.2.2.2.1, r5.2.2.2.2.2.2.2.1, g2, g3, g4, g5, g6, g7, g8, r5.2.2.2.2.2.2.2.2.1, g10, r5.2.2.2.2.2.2.2.2.2.1, r5.2.2.2.2.2.2.2.2.2.2]) (ρ := [1, 15]) (φ := [8]) (ψ := [11]) [none, none, none, none, none, none, none, none, some 0, none, none, none, none, none, none, none, none, none, none, none] [none, none, none, none, none, none, none, none, none, none, none, some 0, none] zyw_View_countFigures zyw_X_sky zye_X_sky (by decide +kernel) (zt_View_countFigures hr14) ⟨⟨_, rfl, fun _ => rfl⟩, trivial⟩ ⟨rfl, trivial⟩ rfl rfl rfl rfl rfl rfl rfl) zd100_116 zxt103 rfl (by decide) (by decide) rfl ?_
        refine zv_addw hB zd100_119 ?_
        have hw := Option.some.inj h
        refine zv_wk hB (L' := [.inr 0, .inl x1, .inl x2, .inl x3, .inl r6]) (F' := [.inr 3, .inr 1000, .inr 1000, .inl r5.1, .inl r5.2.1, .inl r5.2.2.1, .inl f6, .inl f7, .inl r5.2.2.2.1, .inl f9, .inl f10, .inl f11, .inl f12, .inl f13, .inl r5.2.2.2.2.1, .inl f15, .inl r5.2.2.2.2.2.1, .inl f17, .inl f18, .inl f19]) ⟨fun _ => rfl, fun _ => rfl, fun _ => rfl, fun _ => rfl, fun _ => rfl, trivial⟩ ⟨fun _ => rfl, fun (h : zv_is (.inr 1000)) => (Nat.lt_irrefl 1000 h).elim, fun (h : zv_is (.inr 1000)) => (Nat.lt_irrefl 1000 h).elim, fun _ => rfl, fun _ => rfl, fun _ => rfl, fun _ => rfl, fun _ => rfl, fun _ => rfl, fun _ => rfl, fun _ => rfl, fun _ => rfl, fun _ => rfl, fun _ => rfl, fun _ => rfl, fun _ => rfl, fun _ => rfl, fun _ => rfl, fun _ => rfl, fun _ => rfl, trivial⟩ ?_
        subst hw
        exact hret _ _ _ _ _ zd100_120 (by trivial) ⟨rfl, rfl, rfl⟩
      replace hc12 : x3 ≠ 3 := hc12
      rw [if_neg hc12] at h
      refine ⟨fun hc15 => ⟨_, rfl, ?_⟩, fun hc15 => ?_⟩
      · replace hc15 : x3 = 4 := hc15
        rw [if_pos hc15] at h
        refine zv_ald hB zd100_121 rfl rfl rfl ?_
        refine zv_getr hB zd100_122 rfl ?_
        obtain ⟨r16, hr16, h⟩ := zi_bind h
        refine zv_cv hB (zv_emq (va2 := [.inr 1]) (F := [.inr 3, .inr 2, .inr 3, .inl r5.1, .inl r5.2.1, .inl r5.2.2.1, .inl f6, .inl f7, .inl r5.2.2.2.1, .inl f9, .inl f10, .inl f11, .inl f12, .inl f13, .inl r5.2.2.2.2.1, .inl f15, .inl r5.2.2.2.2.2.1, .inl f17, .inl f18, .inl f19]) (F' := [.inr 3, .inr 2, .inr 3, .inl r5.1, .inl r5.2.1, .inl r5.2.2.1, .inl f6, .inl f7, .inl r5.2.2.2.1, .inl f9, .inl f10, .inl f11, .inl f12, .inl f13, .inl r5.2.2.2.2.1, .inl f15, .inl r5.2.2.2.2.2.1, .inl f17, .inl f18, .inl f19]) (G := [r5.2.2.2.2.2.2.1, r5.2.2.2.2.2.2.2.1, g2, g3, g4, g5, g6, g7, g8, r5.2.2.2.2.2.2.2.2.1, g10, r5.2.2.2.2.2.2.2.2.2.1, r5.2.2.2.2.2.2.2.2.2.2]) (G' := [r5.2.2.2.2.2.2.1, r5.2.2.2.2.2.2.2.1, g2, g3, g4, g5, g6, g7, g8, r5.2.2.2.2.2.2.2.2.1, g10, r5.2.2.2.2.2.2.2.2.2.1, r5.2.2.2.2.2.2.2.2.2.2]) (ρ := [1, 15]) (φ := []) (ψ := [11]) [none, none, none, none, none, none, none, none, none, none, none, none, none, none, none, none, none, none, none, none] [none, none, none, none, none, none, none, none, none, none, none, some 0, none] zyw_View_countHolding zyw_X_sky zye_X_sky (by decide +kernel) (zt_View_countHolding hr16) trivial ⟨rfl, trivial⟩ rfl rfl rfl rfl rfl rfl rfl) zd100_125 zxt107 rfl (by decide) (by decide) rfl ?_
        have hw := Option.some.inj h
        refine zv_wk hB (L' := [.inr 0, .inl x1, .inl x2, .inl x3, .inl r6]) (F' := [.inr 3, .inr 1000, .inr 1000, .inl r5.1, .inl r5.2.1, .inl r5.2.2.1, .inl f6, .inl f7, .inl r5.2.2.2.1, .inl f9, .inl f10, .inl f11, .inl f12, .inl f13, .inl r5.2.2.2.2.1, .inl f15, .inl r5.2.2.2.2.2.1, .inl f17, .inl f18, .inl f19]) ⟨fun _ => rfl, fun _ => rfl, fun _ => rfl, fun _ => rfl, fun _ => rfl, trivial⟩ ⟨fun _ => rfl, fun (h : zv_is (.inr 1000)) => (Nat.lt_irrefl 1000 h).elim, fun (h : zv_is (.inr 1000)) => (Nat.lt_irrefl 1000 h).elim, fun _ => rfl, fun _ => rfl, fun _ => rfl, fun _ => rfl, fun _ => rfl, fun _ => rfl, fun _ => rfl, fun _ => rfl, fun _ => rfl, fun _ => rfl, fun _ => rfl, fun _ => rfl, fun _ => rfl, fun _ => rfl, fun _ => rfl, fun _ => rfl, fun _ => rfl, trivial⟩ ?_
        subst hw
        exact hret _ _ _ _ _ zd100_128 (by trivial) ⟨rfl, rfl, rfl⟩
      replace hc15 : x3 ≠ 4 := hc15
      rw [if_neg hc15] at h
      refine ⟨fun hc17 => ⟨_, rfl, ?_⟩, fun hc17 => ?_⟩
      · replace hc17 : x3 = 5 := hc17
        rw [if_pos hc17] at h
        refine zv_ald hB zd100_129 rfl rfl rfl ?_
        refine zv_getr hB zd100_130 rfl ?_
        obtain ⟨r18, hr18, h⟩ := zi_bind h
        refine zv_cv hB (zv_emq (va2 := [.inr 1]) (F := [.inr 3, .inr 2, .inr 3, .inl r5.1, .inl r5.2.1, .inl r5.2.2.1, .inl f6, .inl f7, .inl r5.2.2.2.1, .inl f9, .inl f10, .inl f11, .inl f12, .inl f13, .inl r5.2.2.2.2.1, .inl f15, .inl r5.2.2.2.2.2.1, .inl f17, .inl f18, .inl f19]) (F' := [.inr 3, .inr 2, .inr 3, .inl r5.1, .inl r5.2.1, .inl r5.2.2.1, .inl f6, .inl f7, .inl r5.2.2.2.1, .inl f9, .inl f10, .inl f11, .inl f12, .inl f13, .inl r5.2.2.2.2.1, .inl f15, .inl r5.2.2.2.2.2.1, .inl f17, .inl f18, .inl f19]) (G := [r5.2.2.2.2.2.2.1, r5.2.2.2.2.2.2.2.1, g2, g3, g4, g5, g6, g7, g8, r5.2.2.2.2.2.2.2.2.1, g10, r5.2.2.2.2.2.2.2.2.2.1, r5.2.2.2.2.2.2.2.2.2.2]) (G' := [r5.2.2.2.2.2.2.1, r5.2.2.2.2.2.2.2.1, g2, g3, g4, g5, g6, g7, g8, r5.2.2.2.2.2.2.2.2.1, g10, r5.2.2.2.2.2.2.2.2.2.1, r5.2.2.2.2.2.2.2.2.2.2]) (ρ := [1, 15]) (φ := [8]) (ψ := [11]) [none, none, none, none, none, none, none, none, some 0, none, none, none, none, none, none, none, none, none, none, none] [none, none, none, none, none, none, none, none, none, none, none, some 0, none] zyw_View_mostLegged zyw_X_sky zye_X_sky (by decide +kernel) (zt_View_mostLegged hr18) ⟨⟨_, rfl, fun _ => rfl⟩, trivial⟩ ⟨rfl, trivial⟩ rfl rfl rfl rfl rfl rfl rfl) zd100_133 zxt108 rfl (by decide) (by decide) rfl ?_
        have hw := Option.some.inj h
        refine zv_wk hB (L' := [.inr 0, .inl x1, .inl x2, .inl x3, .inl r6]) (F' := [.inr 3, .inr 1000, .inr 1000, .inl r5.1, .inl r5.2.1, .inl r5.2.2.1, .inl f6, .inl f7, .inl r5.2.2.2.1, .inl f9, .inl f10, .inl f11, .inl f12, .inl f13, .inl r5.2.2.2.2.1, .inl f15, .inl r5.2.2.2.2.2.1, .inl f17, .inl f18, .inl f19]) ⟨fun _ => rfl, fun _ => rfl, fun _ => rfl, fun _ => rfl, fun _ => rfl, trivial⟩ ⟨fun _ => rfl, fun (h : zv_is (.inr 1000)) => (Nat.lt_irrefl 1000 h).elim, fun (h : zv_is (.inr 1000)) => (Nat.lt_irrefl 1000 h).elim, fun _ => rfl, fun _ => rfl, fun _ => rfl, fun _ => rfl, fun _ => rfl, fun _ => rfl, fun _ => rfl, fun _ => rfl, fun _ => rfl, fun _ => rfl, fun _ => rfl, fun _ => rfl, fun _ => rfl, fun _ => rfl, fun _ => rfl, fun _ => rfl, fun _ => rfl, trivial⟩ ?_
        subst hw
        exact hret _ _ _ _ _ zd100_136 (by trivial) ⟨rfl, rfl, rfl⟩
      replace hc17 : x3 ≠ 5 := hc17
      rw [if_neg hc17] at h
      refine ⟨_, rfl, ?_⟩
      refine zv_ald hB zd100_137 rfl rfl rfl ?_
      refine zv_getr hB zd100_138 rfl ?_
      refine zv_ald hB zd100_141 rfl rfl rfl ?_
      refine zv_getr hB zd100_142 rfl ?_
      obtain ⟨r19, hr19, h⟩ := zi_bind h
      refine zv_cv hB (zv_emq (va2 := [.inr 1]) (F := [.inr 3, .inr 2, .inr 3, .inl r5.1, .inl r5.2.1, .inl r5.2.2.1, .inl f6, .inl f7, .inl r5.2.2.2.1, .inl f9, .inl f10, .inl f11, .inl f12, .inl f13, .inl r5.2.2.2.2.1, .inl f15, .inl r5.2.2.2.2.2.1, .inl f17, .inl f18, .inl f19]) (F' := [.inr 3, .inr 2, .inr 3, .inl r5.1, .inl r5.2.1, .inl r5.2.2.1, .inl f6, .inl f7, .inl r5.2.2.2.1, .inl f9, .inl f10, .inl f11, .inl f12, .inl f13, .inl r5.2.2.2.2.1, .inl f15, .inl r5.2.2.2.2.2.1, .inl f17, .inl f18, .inl f19]) (G := [r5.2.2.2.2.2.2.1, r5.2.2.2.2.2.2.2.1, g2, g3, g4, g5, g6, g7, g8, r5.2.2.2.2.2.2.2.2.1, g10, r5.2.2.2.2.2.2.2.2.2.1, r5.2.2.2.2.2.2.2.2.2.2]) (G' := [r5.2.2.2.2.2.2.1, r5.2.2.2.2.2.2.2.1, g2, g3, g4, g5, g6, g7, g8, r5.2.2.2.2.2.2.2.2.1, g10, r5.2.2.2.2.2.2.2.2.2.1, r5.2.2.2.2.2.2.2.2.2.2]) (ρ := [1, 15]) (φ := [8]) (ψ := [11]) [none, none, none, none, none, none, none, none, some 0, none, none, none, none, none, none, none, none, none, none, none] [none, none, none, none, none, none, none, none, none, none, none, some 0, none] zyw_View_mostLegged zyw_X_sky zye_X_sky (by decide +kernel) (zt_View_mostLegged hr19) ⟨⟨_, rfl, fun _ => rfl⟩, trivial⟩ ⟨rfl, trivial⟩ rfl rfl rfl rfl rfl rfl rfl) zd100_145 zxt108 rfl (by decide) (by decide) rfl ?_
      obtain ⟨r20, hr20, h⟩ := zi_bind h
      refine zv_cv hB (zv_emq (va2 := [.inr 1, .inl r19]) (F := [.inr 3, .inr 2, .inr 3, .inl r5.1, .inl r5.2.1, .inl r5.2.2.1, .inl f6, .inl f7, .inl r5.2.2.2.1, .inl f9, .inl f10, .inl f11, .inl f12, .inl f13, .inl r5.2.2.2.2.1, .inl f15, .inl r5.2.2.2.2.2.1, .inl f17, .inl f18, .inl f19]) (F' := [.inr 3, .inr 2, .inr 3, .inl r5.1, .inl r5.2.1, .inl r5.2.2.1, .inl f6, .inl f7, .inl r5.2.2.2.1, .inl f9, .inl f10, .inl f11, .inl f12, .inl f13, .inl r5.2.2.2.2.1, .inl f15, .inl r5.2.2.2.2.2.1, .inl f17, .inl f18, .inl f19]) (G := [r5.2.2.2.2.2.2.1, r5.2.2.2.2.2.2.2.1, g2, g3, g4, g5, g6, g7, g8, r5.2.2.2.2.2.2.2.2.1, g10, r5.2.2.2.2.2.2.2.2.2.1, r5.2.2.2.2.2.2.2.2.2.2]) (G' := [r5.2.2.2.2.2.2.1, r5.2.2.2.2.2.2.2.1, g2, g3, g4, g5, g6, g7, g8, r5.2.2.2.2.2.2.2.2.1, g10, r5.2.2.2.2.2.2.2.2.2.1, r5.2.2.2.2.2.2.2.2.2.2]) (ρ := [1, 15]) (φ := []) (ψ := [11]) [none, none, none, none, none, none, none, none, none, none, none, none, none, none, none, none, none, none, none, none] [none, none, none, none, none, none, none, none, none, none, none, some 0, none] zyw_View_legsOf zyw_X_sky zye_X_sky (by decide +kernel) (zt_View_legsOf hr20) trivial ⟨rfl, trivial⟩ rfl rfl rfl rfl rfl rfl rfl) zd100_148 zxt109 rfl (by decide) (by decide) rfl ?_
      have hw := Option.some.inj h
      refine zv_wk hB (L' := [.inr 0, .inl x1, .inl x2, .inl x3, .inl r6]) (F' := [.inr 3, .inr 1000, .inr 1000, .inl r5.1, .inl r5.2.1, .inl r5.2.2.1, .inl f6, .inl f7, .inl r5.2.2.2.1, .inl f9, .inl f10, .inl f11, .inl f12, .inl f13, .inl r5.2.2.2.2.1, .inl f15, .inl r5.2.2.2.2.2.1, .inl f17, .inl f18, .inl f19]) ⟨fun _ => rfl, fun _ => rfl, fun _ => rfl, fun _ => rfl, fun _ => rfl, trivial⟩ ⟨fun _ => rfl, fun (h : zv_is (.inr 1000)) => (Nat.lt_irrefl 1000 h).elim, fun (h : zv_is (.inr 1000)) => (Nat.lt_irrefl 1000 h).elim, fun _ => rfl, fun _ => rfl, fun _ => rfl, fun _ => rfl, fun _ => rfl, fun _ => rfl, fun _ => rfl, fun _ => rfl, fun _ => rfl, fun _ => rfl, fun _ => rfl, fun _ => rfl, fun _ => rfl, fun _ => rfl, fun _ => rfl, fun _ => rfl, fun _ => rfl, trivial⟩ ?_
      subst hw
      exact hret _ _ _ _ _ zd100_151 (by trivial) ⟨rfl, rfl, rfl⟩
    · rw [if_pos hc4] at h
      refine zv_con hB zd100_18 rfl ?_
      have hw := Option.some.inj h
      subst hw
      exact hret _ _ _ _ _ zd100_19 (by trivial) ⟨rfl, rfl, rfl⟩
