/-! 60p.dec, 60q.dec, 60r.dec, 60s.dec, 60t.dec -/
section
/-! Methods as functions, and that they do what these do. -/
/-! View_largestFigure ()I -/
-- names: 0 View('arg', 0), 1 (0, 24)(0, 7, 5)
-- fields: f0 = 0.shown_; arrays: g0 = 1; out: [('ret', None)]
abbrev zy_View_largestFigure : zNL := (2, [(0, 7)], [(0, 7, 4, 0)], [(0, 7, 5, 1)], [(1, 0, 24, 0)])
theorem zyw_View_largestFigure : zv_wf zy_View_largestFigure = true := by decide +kernel
theorem zye_View_largestFigure : zv_ek2 zy_View_largestFigure = true := by decide +kernel
def zf_View_largestFigure_l0_b (g0 : (Int → Int)) (rec : Int → Int → Int → Option (Int)) (x1 : Int) (x2 : Int) (x3 : Int) : Option (Int) := if x3 < 24 then (if (zi_and (zi_shr x2 x3) 1) = 0 then (rec x1 x2 (zi_w (x3 + 1))) else ((zf_View_reach x3 (-1) (-1) g0).bind fun r3 => ((zf_Integer_bitCount r3).bind fun r4 => ((zf_Math_max x1 r4).bind fun r5 => (rec r5 (zi_and x2 (zi_xor r3 (-1))) (zi_w (x3 + 1))))))) else (some x1)
def zf_View_largestFigure_l0 (g0 : (Int → Int)) : Nat → Int → Int → Int → Option (Int)
  | 0, _, _, _ => none
  | n + 1, x1, x2, x3 => zf_View_largestFigure_l0_b g0 (zf_View_largestFigure_l0 g0 n) x1 x2 x3
def zf_View_largestFigure (f0 : Int) (g0 : (Int → Int)) : Option (Int) := (zf_View_largestFigure_l0 g0 zi_fu 0 f0 0).bind fun q6 => (some q6)
theorem zd106_0 : decode zxm106.2.1 0 = .ok (.iconst 0, 1) := by decide +kernel
theorem zd106_1 : decode zxm106.2.1 1 = .ok (.istore_n 1, 1) := by decide +kernel
theorem zd106_2 : decode zxm106.2.1 2 = .ok (.aload_n 0, 1) := by decide +kernel
theorem zd106_3 : decode zxm106.2.1 3 = .ok (.getfield 18, 3) := by decide +kernel
theorem zd106_6 : decode zxm106.2.1 6 = .ok (.istore_n 2, 1) := by decide +kernel
theorem zd106_7 : decode zxm106.2.1 7 = .ok (.iconst 0, 1) := by decide +kernel
theorem zd106_8 : decode zxm106.2.1 8 = .ok (.istore_n 3, 1) := by decide +kernel
theorem zd106_9 : decode zxm106.2.1 9 = .ok (.iload_n 3, 1) := by decide +kernel
theorem zd106_10 : decode zxm106.2.1 10 = .ok (.bipush 24, 2) := by decide +kernel
theorem zd106_12 : decode zxm106.2.1 12 = .ok (.if_icmp .ge 43, 3) := by decide +kernel
theorem zd106_15 : decode zxm106.2.1 15 = .ok (.iload_n 2, 1) := by decide +kernel
theorem zd106_16 : decode zxm106.2.1 16 = .ok (.iload_n 3, 1) := by decide +kernel
theorem zd106_17 : decode zxm106.2.1 17 = .ok (.ishr, 1) := by decide +kernel
theorem zd106_18 : decode zxm106.2.1 18 = .ok (.iconst 1, 1) := by decide +kernel
theorem zd106_19 : decode zxm106.2.1 19 = .ok (.iand, 1) := by decide +kernel
theorem zd106_20 : decode zxm106.2.1 20 = .ok (.ifCond .eq 29, 3) := by decide +kernel
theorem zd106_23 : decode zxm106.2.1 23 = .ok (.aload_n 0, 1) := by decide +kernel
theorem zd106_24 : decode zxm106.2.1 24 = .ok (.iload_n 3, 1) := by decide +kernel
theorem zd106_25 : decode zxm106.2.1 25 = .ok (.iconst (-1), 1) := by decide +kernel
theorem zd106_26 : decode zxm106.2.1 26 = .ok (.iconst (-1), 1) := by decide +kernel
theorem zd106_27 : decode zxm106.2.1 27 = .ok (.invokevirtual 139, 3) := by decide +kernel
theorem zd106_30 : decode zxm106.2.1 30 = .ok (.istore 4, 2) := by decide +kernel
theorem zd106_32 : decode zxm106.2.1 32 = .ok (.iload_n 1, 1) := by decide +kernel
theorem zd106_33 : decode zxm106.2.1 33 = .ok (.iload 4, 2) := by decide +kernel
theorem zd106_35 : decode zxm106.2.1 35 = .ok (.invokestatic 131, 3) := by decide +kernel
theorem zd106_38 : decode zxm106.2.1 38 = .ok (.invokestatic 143, 3) := by decide +kernel
theorem zd106_41 : decode zxm106.2.1 41 = .ok (.istore_n 1, 1) := by decide +kernel
theorem zd106_42 : decode zxm106.2.1 42 = .ok (.iload_n 2, 1) := by decide +kernel
theorem zd106_43 : decode zxm106.2.1 43 = .ok (.iload 4, 2) := by decide +kernel
theorem zd106_45 : decode zxm106.2.1 45 = .ok (.iconst (-1), 1) := by decide +kernel
theorem zd106_46 : decode zxm106.2.1 46 = .ok (.ixor, 1) := by decide +kernel
theorem zd106_47 : decode zxm106.2.1 47 = .ok (.iand, 1) := by decide +kernel
theorem zd106_48 : decode zxm106.2.1 48 = .ok (.istore_n 2, 1) := by decide +kernel
theorem zd106_49 : decode zxm106.2.1 49 = .ok (.iinc 3 1, 3) := by decide +kernel
theorem zd106_52 : decode zxm106.2.1 52 = .ok (.goto (-43), 3) := by decide +kernel
theorem zd106_55 : decode zxm106.2.1 55 = .ok (.iload_n 1, 1) := by decide +kernel
theorem zd106_56 : decode zxm106.2.1 56 = .ok (.ireturn, 1) := by decide +kernel
theorem zt_View_largestFigure {f0 : Int} {g0 : (Int → Int)} {o : Int} (h : zf_View_largestFigure f0 g0 = some o) : zv_Fn z_TB z_cl z_KX zy_View_largestFigure zxm106 (3, 180) [.inr 0] [.inl f0] [g0] (some o) [.inl f0] [g0] := zv_meth (K := (z_KF11, z_KC11, z_KL11, z_KT11, [], [], [], none)) (FT := z_FT) (MT := z_MT) (n := 1) zxp106 (z_ks11 _ (fun _ h => List.mem_cons_of_mem _ h) _ _ _ _ (fun j r h _ => by cases h)) (fun _ _ => zs_KX_p) zyw_View_largestFigure (fun va F G h => by obtain ⟨rfl, _⟩ := h; rfl) (fun va F G h => by obtain ⟨rfl, _⟩ := h; rfl) rfl fun good va F G hB hret hvret hP => by
  obtain ⟨rfl, rfl, rfl⟩ := hP
  have l0 : ∀ (n : Nat) (x1 : Int) (x2 : Int) (x3 : Int) (q : Int), zf_View_largestFigure_l0 g0 n x1 x2 x3 = some q → (good 55 [.inr 1000, .inl q, .inr 1000, .inr 1000, .inr 1000] [] [.inl f0] [g0]) → good 9 [.inr 0, .inl x1, .inl x2, .inl x3, .inr 1000] [] [.inl f0] [g0] := by
    intro n
    induction n with
    | zero => intro x1 x2 x3 q h; exact absurd (show none = some q from h) (fun h => by cases h)
    | succ n ih =>
      intro x1 x2 x3 q h hK
      replace h : zf_View_largestFigure_l0_b g0 (zf_View_largestFigure_l0 g0 n) x1 x2 x3 = some q := h
      unfold zf_View_largestFigure_l0_b at h
      refine zv_ild hB zd106_9 rfl rfl ?_
      refine zv_con hB zd106_10 rfl ?_
      refine zv_cge hB zd106_12 rfl (fun hc1 => ?_) (fun hc1 => ?_)
      · rw [if_neg (Int.not_lt.mpr hc1)] at h
        have hq := Option.some.inj h
        subst hq
        refine zv_wk hB (L' := [.inr 1000, .inl x1, .inr 1000, .inr 1000, .inr 1000]) (F' := [.inl f0]) ⟨fun (h : zv_is (.inr 1000)) => (Nat.lt_irrefl 1000 h).elim, fun _ => rfl, fun (h : zv_is (.inr 1000)) => (Nat.lt_irrefl 1000 h).elim, fun (h : zv_is (.inr 1000)) => (Nat.lt_irrefl 1000 h).elim, fun (h : zv_is (.inr 1000)) => (Nat.lt_irrefl 1000 h).elim, trivial⟩ ⟨fun _ => rfl, trivial⟩ ?_
        exact hK
      · rw [if_pos hc1] at h
        refine zv_ild hB zd106_15 rfl rfl ?_
        refine zv_ild hB zd106_16 rfl rfl ?_
        refine zv_shrw hB zd106_17 ?_
        refine zv_con hB zd106_18 rfl ?_
        refine zv_andw hB zd106_19 ?_
        refine zv_zeq hB zd106_20 rfl (fun hc2 => ?_) (fun hc2 => ?_)
        · rw [if_pos hc2] at h
          refine zv_iincw hB zd106_49 rfl rfl ?_
          refine zv_goto hB zd106_52 rfl ?_
          exact ih _ _ _ q h hK
        · rw [if_neg hc2] at h
          refine zv_ald hB zd106_23 rfl rfl rfl ?_
          refine zv_ild hB zd106_24 rfl rfl ?_
          refine zv_con hB zd106_25 rfl ?_
          refine zv_con hB zd106_26 rfl ?_
          obtain ⟨r3, hr3, h⟩ := zi_bind h
          refine zv_cv hB (zv_emq (va2 := [.inr 0, .inl x3, .inl (-1), .inl (-1)]) (F := [.inl f0]) (F' := [.inl f0]) (G := [g0]) (G' := [g0]) (ρ := [0, 1]) (φ := []) (ψ := [0]) [none] [some 0] zyw_View_reach zyw_View_largestFigure zye_View_largestFigure (by decide +kernel) (zt_View_reach hr3) trivial ⟨rfl, trivial⟩ rfl rfl rfl rfl rfl rfl rfl) zd106_27 zxt104 rfl (by decide) (by decide) rfl ?_
          refine zv_ist hB zd106_30 rfl rfl rfl ?_
          refine zv_ild hB zd106_32 rfl rfl ?_
          refine zv_ild hB zd106_33 rfl rfl ?_
          obtain ⟨r4, hr4, h⟩ := zi_bind h
          refine zv_cs hB (zv_emq (va2 := [.inl r3]) (F := [.inl f0]) (F' := [.inl f0]) (G := [g0]) (G' := [g0]) (ρ := []) (φ := []) (ψ := []) [none] [none] zyw_Integer_bitCount zyw_View_largestFigure zye_View_largestFigure (by decide +kernel) (zt_Integer_bitCount hr4) trivial trivial rfl rfl rfl rfl rfl rfl rfl) zd106_35 zxt102 rfl (by decide) (by decide) rfl ?_
          obtain ⟨r5, hr5, h⟩ := zi_bind h
          refine zv_cs hB (zv_emq (va2 := [.inl x1, .inl r4]) (F := [.inl f0]) (F' := [.inl f0]) (G := [g0]) (G' := [g0]) (ρ := []) (φ := []) (ψ := []) [none] [none] zyw_Math_max zyw_View_largestFigure zye_View_largestFigure (by decide +kernel) (zt_Math_max hr5) trivial trivial rfl rfl rfl rfl rfl rfl rfl) zd106_38 zxt55 rfl (by decide) (by decide) rfl ?_
          refine zv_ist hB zd106_41 rfl rfl rfl ?_
          refine zv_ild hB zd106_42 rfl rfl ?_
          refine zv_ild hB zd106_43 rfl rfl ?_
          refine zv_con hB zd106_45 rfl ?_
          refine zv_xorw hB zd106_46 ?_
          refine zv_andw hB zd106_47 ?_
          refine zv_ist hB zd106_48 rfl rfl rfl ?_
          refine zv_iincw hB zd106_49 rfl rfl ?_
          refine zv_goto hB zd106_52 rfl ?_
          refine zv_wk hB (L' := [.inr 0, .inl r5, .inl (zi_and x2 (zi_xor r3 (-1))), .inl (zi_w (x3 + 1)), .inr 1000]) (F' := [.inl f0]) ⟨fun _ => rfl, fun _ => rfl, fun _ => rfl, fun _ => rfl, fun (h : zv_is (.inr 1000)) => (Nat.lt_irrefl 1000 h).elim, trivial⟩ ⟨fun _ => rfl, trivial⟩ ?_
          exact ih _ _ _ q h hK
  unfold zf_View_largestFigure at h
  refine zv_con hB zd106_0 rfl ?_
  refine zv_ist hB zd106_1 rfl rfl rfl ?_
  refine zv_ald hB zd106_2 rfl rfl rfl ?_
  refine zv_getf hB zd106_3 rfl rfl (fun _ _ => ?_)
  refine zv_ist hB zd106_6 rfl rfl rfl ?_
  refine zv_con hB zd106_7 rfl ?_
  refine zv_ist hB zd106_8 rfl rfl rfl ?_
  obtain ⟨q6, hq6, h⟩ := zi_bind h
  refine l0 _ _ _ _ q6 hq6 ?_
  show good 55 [.inr 1000, .inl q6, .inr 1000, .inr 1000, .inr 1000] [] [.inl f0] [g0]
  refine zv_ild hB zd106_55 rfl rfl ?_
  have hw := Option.some.inj h
  subst hw
  exact hret _ _ _ _ _ zd106_56 (by trivial) ⟨rfl, rfl, rfl⟩
/-! View_countHolding ()I -/
-- names: 0 View('arg', 0), 1 (0, 24)(0, 7, 5)
-- fields: ; arrays: g0 = 1; out: [('ret', None)]
abbrev zy_View_countHolding : zNL := (2, [(0, 7)], [], [(0, 7, 5, 1)], [(1, 0, 24, 0)])
theorem zyw_View_countHolding : zv_wf zy_View_countHolding = true := by decide +kernel
theorem zye_View_countHolding : zv_ek2 zy_View_countHolding = true := by decide +kernel
def zf_View_countHolding_l1_b (x2 : Int) (g0 : (Int → Int)) (rec : Int → Int → Option (Int)) (x1 : Int) (x3 : Int) : Option (Int) := if x3 < 24 then (cond (zi_ix x2 24) (if (zi_and (zi_shr (g0 x2) x3) 1) = 0 then (rec x1 (zi_w (x3 + 1))) else ((zf_View_reach x2 x2 x3 g0).bind fun r5 => (if (zi_and (zi_shr r5 x3) 1) = 0 then (rec (zi_w (x1 + 1)) (zi_w (x3 + 1))) else (rec x1 (zi_w (x3 + 1)))))) none) else (some x1)
def zf_View_countHolding_l1 (x2 : Int) (g0 : (Int → Int)) : Nat → Int → Int → Option (Int)
  | 0, _, _ => none
  | n + 1, x1, x3 => zf_View_countHolding_l1_b x2 g0 (zf_View_countHolding_l1 x2 g0 n) x1 x3
def zf_View_countHolding_l0_b (g0 : (Int → Int)) (rec : Int → Int → Option (Int)) (x1 : Int) (x2 : Int) : Option (Int) := if x2 < 24 then ((zf_View_countHolding_l1 x2 g0 zi_fu x1 (zi_w (x2 + 1))).bind fun q7 => (rec q7 (zi_w (x2 + 1)))) else (some x1)
def zf_View_countHolding_l0 (g0 : (Int → Int)) : Nat → Int → Int → Option (Int)
  | 0, _, _ => none
  | n + 1, x1, x2 => zf_View_countHolding_l0_b g0 (zf_View_countHolding_l0 g0 n) x1 x2
def zf_View_countHolding (g0 : (Int → Int)) : Option (Int) := (zf_View_countHolding_l0 g0 zi_fu 0 0).bind fun q8 => (some q8)
theorem zd107_0 : decode zxm107.2.1 0 = .ok (.iconst 0, 1) := by decide +kernel
theorem zd107_1 : decode zxm107.2.1 1 = .ok (.istore_n 1, 1) := by decide +kernel
theorem zd107_2 : decode zxm107.2.1 2 = .ok (.iconst 0, 1) := by decide +kernel
theorem zd107_3 : decode zxm107.2.1 3 = .ok (.istore_n 2, 1) := by decide +kernel
theorem zd107_4 : decode zxm107.2.1 4 = .ok (.iload_n 2, 1) := by decide +kernel
theorem zd107_5 : decode zxm107.2.1 5 = .ok (.bipush 24, 2) := by decide +kernel
theorem zd107_7 : decode zxm107.2.1 7 = .ok (.if_icmp .ge 55, 3) := by decide +kernel
theorem zd107_10 : decode zxm107.2.1 10 = .ok (.iload_n 2, 1) := by decide +kernel
theorem zd107_11 : decode zxm107.2.1 11 = .ok (.iconst 1, 1) := by decide +kernel
theorem zd107_12 : decode zxm107.2.1 12 = .ok (.iadd, 1) := by decide +kernel
theorem zd107_13 : decode zxm107.2.1 13 = .ok (.istore_n 3, 1) := by decide +kernel
theorem zd107_14 : decode zxm107.2.1 14 = .ok (.iload_n 3, 1) := by decide +kernel
theorem zd107_15 : decode zxm107.2.1 15 = .ok (.bipush 24, 2) := by decide +kernel
theorem zd107_17 : decode zxm107.2.1 17 = .ok (.if_icmp .ge 39, 3) := by decide +kernel
theorem zd107_20 : decode zxm107.2.1 20 = .ok (.aload_n 0, 1) := by decide +kernel
theorem zd107_21 : decode zxm107.2.1 21 = .ok (.getfield 21, 3) := by decide +kernel
theorem zd107_24 : decode zxm107.2.1 24 = .ok (.iload_n 2, 1) := by decide +kernel
theorem zd107_25 : decode zxm107.2.1 25 = .ok (.iaload, 1) := by decide +kernel
theorem zd107_26 : decode zxm107.2.1 26 = .ok (.iload_n 3, 1) := by decide +kernel
theorem zd107_27 : decode zxm107.2.1 27 = .ok (.ishr, 1) := by decide +kernel
theorem zd107_28 : decode zxm107.2.1 28 = .ok (.iconst 1, 1) := by decide +kernel
theorem zd107_29 : decode zxm107.2.1 29 = .ok (.iand, 1) := by decide +kernel
theorem zd107_30 : decode zxm107.2.1 30 = .ok (.ifCond .eq 20, 3) := by decide +kernel
theorem zd107_33 : decode zxm107.2.1 33 = .ok (.aload_n 0, 1) := by decide +kernel
theorem zd107_34 : decode zxm107.2.1 34 = .ok (.iload_n 2, 1) := by decide +kernel
theorem zd107_35 : decode zxm107.2.1 35 = .ok (.iload_n 2, 1) := by decide +kernel
theorem zd107_36 : decode zxm107.2.1 36 = .ok (.iload_n 3, 1) := by decide +kernel
theorem zd107_37 : decode zxm107.2.1 37 = .ok (.invokevirtual 139, 3) := by decide +kernel
theorem zd107_40 : decode zxm107.2.1 40 = .ok (.iload_n 3, 1) := by decide +kernel
theorem zd107_41 : decode zxm107.2.1 41 = .ok (.ishr, 1) := by decide +kernel
theorem zd107_42 : decode zxm107.2.1 42 = .ok (.iconst 1, 1) := by decide +kernel
theorem zd107_43 : decode zxm107.2.1 43 = .ok (.iand, 1) := by decide +kernel
theorem zd107_44 : decode zxm107.2.1 44 = .ok (.ifCond .ne 6, 3) := by decide +kernel
theorem zd107_47 : decode zxm107.2.1 47 = .ok (.iinc 1 1, 3) := by decide +kernel
theorem zd107_50 : decode zxm107.2.1 50 = .ok (.iinc 3 1, 3) := by decide +kernel
theorem zd107_53 : decode zxm107.2.1 53 = .ok (.goto (-39), 3) := by decide +kernel
theorem zd107_56 : decode zxm107.2.1 56 = .ok (.iinc 2 1, 3) := by decide +kernel
theorem zd107_59 : decode zxm107.2.1 59 = .ok (.goto (-55), 3) := by decide +kernel
theorem zd107_62 : decode zxm107.2.1 62 = .ok (.iload_n 1, 1) := by decide +kernel
theorem zd107_63 : decode zxm107.2.1 63 = .ok (.ireturn, 1) := by decide +kernel
theorem zt_View_countHolding {g0 : (Int → Int)} {o : Int} (h : zf_View_countHolding g0 = some o) : zv_Fn z_TB z_cl z_KX zy_View_countHolding zxm107 (3, 180) [.inr 0] [] [g0] (some o) [] [g0] := zv_meth (K := (z_KF11, z_KC11, z_KL11, z_KT11, [], [], [], none)) (FT := z_FT) (MT := z_MT) (n := 1) zxp107 (z_ks11 _ (fun _ h => List.mem_cons_of_mem _ h) _ _ _ _ (fun j r h _ => by cases h)) (fun _ _ => zs_KX_p) zyw_View_countHolding (fun va F G h => by obtain ⟨rfl, _⟩ := h; rfl) (fun va F G h => by obtain ⟨rfl, _⟩ := h; rfl) rfl fun good va F G hB hret hvret hP => by
  obtain ⟨rfl, rfl, rfl⟩ := hP
  have l1 : ∀ (n : Nat) (x1 : Int) (x2 : Int) (x3 : Int) (q : Int), zf_View_countHolding_l1 x2 g0 n x1 x3 = some q → (good 56 [.inr 0, .inl q, .inl x2, .inr 1000] [] [] [g0]) → good 14 [.inr 0, .inl x1, .inl x2, .inl x3] [] [] [g0] := by
    intro n
    induction n with
    | zero => intro x1 x2 x3 q h; exact absurd (show none = some q from h) (fun h => by cases h)
    | succ n ih =>
      intro x1 x2 x3 q h hK
      replace h : zf_View_countHolding_l1_b x2 g0 (zf_View_countHolding_l1 x2 g0 n) x1 x3 = some q := h
      unfold zf_View_countHolding_l1_b at h
      refine zv_ild hB zd107_14 rfl rfl ?_
      refine zv_con hB zd107_15 rfl ?_
      refine zv_cge hB zd107_17 rfl (fun hc2 => ?_) (fun hc2 => ?_)
      · rw [if_neg (Int.not_lt.mpr hc2)] at h
        have hq := Option.some.inj h
        subst hq
        refine zv_wk hB (L' := [.inr 0, .inl x1, .inl x2, .inr 1000]) (F' := []) ⟨fun _ => rfl, fun _ => rfl, fun _ => rfl, fun (h : zv_is (.inr 1000)) => (Nat.lt_irrefl 1000 h).elim, trivial⟩ trivial ?_
        exact hK
      · rw [if_pos hc2] at h
        refine zv_ald hB zd107_20 rfl rfl rfl ?_
        refine zv_getr hB zd107_21 rfl ?_
        refine zv_ild hB zd107_24 rfl rfl ?_
        obtain ⟨c3, h⟩ := zi_if h
        refine zv_iald hB zd107_25 rfl rfl (zi_ix_ok c3).1 (zi_ix_ok c3).2 (fun _ _ => ?_)
        refine zv_ild hB zd107_26 rfl rfl ?_
        refine zv_shrw hB zd107_27 ?_
        refine zv_con hB zd107_28 rfl ?_
        refine zv_andw hB zd107_29 ?_
        refine zv_zeq hB zd107_30 rfl (fun hc4 => ?_) (fun hc4 => ?_)
        · rw [if_pos hc4] at h
          refine zv_iincw hB zd107_50 rfl rfl ?_
          refine zv_goto hB zd107_53 rfl ?_
          exact ih _ _ _ q h hK
        · rw [if_neg hc4] at h
          refine zv_ald hB zd107_33 rfl rfl rfl ?_
          refine zv_ild hB zd107_34 rfl rfl ?_
          refine zv_ild hB zd107_35 rfl rfl ?_
          refine zv_ild hB zd107_36 rfl rfl ?_
          obtain ⟨r5, hr5, h⟩ := zi_bind h
          refine zv_cv hB (zv_emq (va2 := [.inr 0, .inl x2, .inl x2, .inl x3]) (F := []) (F' := []) (G := [g0]) (G' := [g0]) (ρ := [0, 1]) (φ := []) (ψ := [0]) [] [some 0] zyw_View_reach zyw_View_countHolding zye_View_countHolding (by decide +kernel) (zt_View_reach hr5) trivial ⟨rfl, trivial⟩ rfl rfl rfl rfl rfl rfl rfl) zd107_37 zxt104 rfl (by decide) (by decide) rfl ?_
          refine zv_ild hB zd107_40 rfl rfl ?_
          refine zv_shrw hB zd107_41 ?_
          refine zv_con hB zd107_42 rfl ?_
          refine zv_andw hB zd107_43 ?_
          refine zv_zne hB zd107_44 rfl (fun hc6 => ?_) (fun hc6 => ?_)
          · rw [if_neg hc6] at h
            refine zv_iincw hB zd107_50 rfl rfl ?_
            refine zv_goto hB zd107_53 rfl ?_
            exact ih _ _ _ q h hK
          · rw [if_pos hc6] at h
            refine zv_iincw hB zd107_47 rfl rfl ?_
            refine zv_iincw hB zd107_50 rfl rfl ?_
            refine zv_goto hB zd107_53 rfl ?_
            exact ih _ _ _ q h hK
  have l0 : ∀ (n : Nat) (x1 : Int) (x2 : Int) (q : Int), zf_View_countHolding_l0 g0 n x1 x2 = some q → (good 62 [.inr 1000, .inl q, .inr 1000, .inr 1000] [] [] [g0]) → good 4 [.inr 0, .inl x1, .inl x2, .inr 1000] [] [] [g0] := by
    intro n
    induction n with
    | zero => intro x1 x2 q h; exact absurd (show none = some q from h) (fun h => by cases h)
    | succ n ih =>
      intro x1 x2 q h hK
      replace h : zf_View_countHolding_l0_b g0 (zf_View_countHolding_l0 g0 n) x1 x2 = some q := h
      unfold zf_View_countHolding_l0_b at h
      refine zv_ild hB zd107_4 rfl rfl ?_
      refine zv_con hB zd107_5 rfl ?_
      refine zv_cge hB zd107_7 rfl (fun hc1 => ?_) (fun hc1 => ?_)
      · rw [if_neg (Int.not_lt.mpr hc1)] at h
        have hq := Option.some.inj h
        subst hq
        refine zv_wk hB (L' := [.inr 1000, .inl x1, .inr 1000, .inr 1000]) (F' := []) ⟨fun (h : zv_is (.inr 1000)) => (Nat.lt_irrefl 1000 h).elim, fun _ => rfl, fun (h : zv_is (.inr 1000)) => (Nat.lt_irrefl 1000 h).elim, fun (h : zv_is (.inr 1000)) => (Nat.lt_irrefl 1000 h).elim, trivial⟩ trivial ?_
        exact hK
      · rw [if_pos hc1] at h
        refine zv_ild hB zd107_10 rfl rfl ?_
        refine zv_con hB zd107_11 rfl ?_
        refine zv_addw hB zd107_12 ?_
        refine zv_ist hB zd107_13 rfl rfl rfl ?_
        obtain ⟨q7, hq7, h⟩ := zi_bind h
        refine l1 _ _ _ _ q7 hq7 ?_
        show good 56 [.inr 0, .inl q7, .inl x2, .inr 1000] [] [] [g0]
        refine zv_iincw hB zd107_56 rfl rfl ?_
        refine zv_goto hB zd107_59 rfl ?_
        exact ih _ _ q h hK
  unfold zf_View_countHolding at h
  refine zv_con hB zd107_0 rfl ?_
  refine zv_ist hB zd107_1 rfl rfl rfl ?_
  refine zv_con hB zd107_2 rfl ?_
  refine zv_ist hB zd107_3 rfl rfl rfl ?_
  obtain ⟨q8, hq8, h⟩ := zi_bind h
  refine l0 _ _ _ q8 hq8 ?_
  show good 62 [.inr 1000, .inl q8, .inr 1000, .inr 1000] [] [] [g0]
  refine zv_ild hB zd107_62 rfl rfl ?_
  have hw := Option.some.inj h
  subst hw
  exact hret _ _ _ _ _ zd107_63 (by trivial) ⟨rfl, rfl, rfl⟩
/-! View_legsOf (I)I -/
-- names: 0 View('arg', 0), 1 (0, 24)(0, 7, 5)
-- fields: ; arrays: g0 = 1; out: [('ret', None)]
abbrev zy_View_legsOf : zNL := (2, [(0, 7)], [], [(0, 7, 5, 1)], [(1, 0, 24, 0)])
theorem zyw_View_legsOf : zv_wf zy_View_legsOf = true := by decide +kernel
theorem zye_View_legsOf : zv_ek2 zy_View_legsOf = true := by decide +kernel
def zf_View_legsOf (x1 : Int) (g0 : (Int → Int)) : Option (Int) := if x1 = (-1) then (some 0) else (cond (zi_ix x1 24) ((zf_Integer_bitCount (g0 x1)).bind fun r3 => (some r3)) none)
theorem zd109_0 : decode zxm109.2.1 0 = .ok (.iload_n 1, 1) := by decide +kernel
theorem zd109_1 : decode zxm109.2.1 1 = .ok (.iconst (-1), 1) := by decide +kernel
theorem zd109_2 : decode zxm109.2.1 2 = .ok (.if_icmp .ne 7, 3) := by decide +kernel
theorem zd109_5 : decode zxm109.2.1 5 = .ok (.iconst 0, 1) := by decide +kernel
theorem zd109_6 : decode zxm109.2.1 6 = .ok (.goto 12, 3) := by decide +kernel
theorem zd109_9 : decode zxm109.2.1 9 = .ok (.aload_n 0, 1) := by decide +kernel
theorem zd109_10 : decode zxm109.2.1 10 = .ok (.getfield 21, 3) := by decide +kernel
theorem zd109_13 : decode zxm109.2.1 13 = .ok (.iload_n 1, 1) := by decide +kernel
theorem zd109_14 : decode zxm109.2.1 14 = .ok (.iaload, 1) := by decide +kernel
theorem zd109_15 : decode zxm109.2.1 15 = .ok (.invokestatic 131, 3) := by decide +kernel
theorem zd109_18 : decode zxm109.2.1 18 = .ok (.ireturn, 1) := by decide +kernel
theorem zt_View_legsOf {x1 : Int} {g0 : (Int → Int)} {o : Int} (h : zf_View_legsOf x1 g0 = some o) : zv_Fn z_TB z_cl z_KX zy_View_legsOf zxm109 (1, 60) [.inr 0, .inl x1] [] [g0] (some o) [] [g0] := zv_meth (K := (z_KF11, z_KC11, z_KL11, z_KT11, [], [], [], none)) (FT := z_FT) (MT := z_MT) (n := 2) zxp109 (z_ks11 _ (fun _ h => List.mem_cons_of_mem _ h) _ _ _ _ (fun j r h _ => by cases h)) (fun _ _ => zs_KX_p) zyw_View_legsOf (fun va F G h => by obtain ⟨rfl, _⟩ := h; rfl) (fun va F G h => by obtain ⟨rfl, _⟩ := h; rfl) rfl fun good va F G hB hret hvret hP => by
  obtain ⟨rfl, rfl, rfl⟩ := hP
  unfold zf_View_legsOf at h
  refine zv_ild hB zd109_0 rfl rfl ?_
  refine zv_con hB zd109_1 rfl ?_
  refine zv_cne hB zd109_2 rfl (fun hc1 => ?_) (fun hc1 => ?_)
  · rw [if_neg hc1] at h
    refine zv_ald hB zd109_9 rfl rfl rfl ?_
    refine zv_getr hB zd109_10 rfl ?_
    refine zv_ild hB zd109_13 rfl rfl ?_
    obtain ⟨c2, h⟩ := zi_if h
    refine zv_iald hB zd109_14 rfl rfl (zi_ix_ok c2).1 (zi_ix_ok c2).2 (fun _ _ => ?_)
    obtain ⟨r3, hr3, h⟩ := zi_bind h
    refine zv_cs hB (zv_emq (va2 := [.inl (g0 x1)]) (F := []) (F' := []) (G := [g0]) (G' := [g0]) (ρ := []) (φ := []) (ψ := []) [] [none] zyw_Integer_bitCount zyw_View_legsOf zye_View_legsOf (by decide +kernel) (zt_Integer_bitCount hr3) trivial trivial rfl rfl rfl rfl rfl rfl rfl) zd109_15 zxt102 rfl (by decide) (by decide) rfl ?_
    have hw := Option.some.inj h
    subst hw
    exact hret _ _ _ _ _ zd109_18 (by trivial) ⟨rfl, rfl, rfl⟩
  · rw [if_pos hc1] at h
    refine zv_con hB zd109_5 rfl ?_
    refine zv_goto hB zd109_6 rfl ?_
    have hw := Option.some.inj h
    subst hw
    exact hret _ _ _ _ _ zd109_18 (by trivial) ⟨rfl, rfl, rfl⟩
/-! View_mostLegged ()I -/
-- names: 0 View('arg', 0), 1 (0, 24)(0, 7, 5)
-- fields: f0 = 0.shown_; arrays: g0 = 1; out: [('ret', None)]
abbrev zy_View_mostLegged : zNL := (2, [(0, 7)], [(0, 7, 4, 0)], [(0, 7, 5, 1)], [(1, 0, 24, 0)])
theorem zyw_View_mostLegged : zv_wf zy_View_mostLegged = true := by decide +kernel
theorem zye_View_mostLegged : zv_ek2 zy_View_mostLegged = true := by decide +kernel
def zf_View_mostLegged_l0_b (f0 : Int) (g0 : (Int → Int)) (rec : Int → Int → Option (Int)) (x1 : Int) (x2 : Int) : Option (Int) := if x2 < 24 then (if (zi_and (zi_shr f0 x2) 1) = 0 then (rec x1 (zi_w (x2 + 1))) else (if x1 = (-1) then (rec x2 (zi_w (x2 + 1))) else ((zf_View_legsOf x2 g0).bind fun r4 => ((zf_View_legsOf x1 g0).bind fun r5 => (if r5 < r4 then (rec x2 (zi_w (x2 + 1))) else (rec x1 (zi_w (x2 + 1)))))))) else (some x1)
def zf_View_mostLegged_l0 (f0 : Int) (g0 : (Int → Int)) : Nat → Int → Int → Option (Int)
  | 0, _, _ => none
  | n + 1, x1, x2 => zf_View_mostLegged_l0_b f0 g0 (zf_View_mostLegged_l0 f0 g0 n) x1 x2
def zf_View_mostLegged (f0 : Int) (g0 : (Int → Int)) : Option (Int) := (zf_View_mostLegged_l0 f0 g0 zi_fu (-1) 0).bind fun q7 => (some q7)
theorem zd108_0 : decode zxm108.2.1 0 = .ok (.iconst (-1), 1) := by decide +kernel
theorem zd108_1 : decode zxm108.2.1 1 = .ok (.istore_n 1, 1) := by decide +kernel
theorem zd108_2 : decode zxm108.2.1 2 = .ok (.iconst 0, 1) := by decide +kernel
theorem zd108_3 : decode zxm108.2.1 3 = .ok (.istore_n 2, 1) := by decide +kernel
theorem zd108_4 : decode zxm108.2.1 4 = .ok (.iload_n 2, 1) := by decide +kernel
theorem zd108_5 : decode zxm108.2.1 5 = .ok (.bipush 24, 2) := by decide +kernel
theorem zd108_7 : decode zxm108.2.1 7 = .ok (.if_icmp .ge 40, 3) := by decide +kernel
theorem zd108_10 : decode zxm108.2.1 10 = .ok (.aload_n 0, 1) := by decide +kernel
theorem zd108_11 : decode zxm108.2.1 11 = .ok (.getfield 18, 3) := by decide +kernel
theorem zd108_14 : decode zxm108.2.1 14 = .ok (.iload_n 2, 1) := by decide +kernel
theorem zd108_15 : decode zxm108.2.1 15 = .ok (.ishr, 1) := by decide +kernel
theorem zd108_16 : decode zxm108.2.1 16 = .ok (.iconst 1, 1) := by decide +kernel
theorem zd108_17 : decode zxm108.2.1 17 = .ok (.iand, 1) := by decide +kernel
theorem zd108_18 : decode zxm108.2.1 18 = .ok (.ifCond .eq 23, 3) := by decide +kernel
theorem zd108_21 : decode zxm108.2.1 21 = .ok (.iload_n 1, 1) := by decide +kernel
theorem zd108_22 : decode zxm108.2.1 22 = .ok (.iconst (-1), 1) := by decide +kernel
theorem zd108_23 : decode zxm108.2.1 23 = .ok (.if_icmp .eq 16, 3) := by decide +kernel
theorem zd108_26 : decode zxm108.2.1 26 = .ok (.aload_n 0, 1) := by decide +kernel
theorem zd108_27 : decode zxm108.2.1 27 = .ok (.iload_n 2, 1) := by decide +kernel
theorem zd108_28 : decode zxm108.2.1 28 = .ok (.invokevirtual 146, 3) := by decide +kernel
theorem zd108_31 : decode zxm108.2.1 31 = .ok (.aload_n 0, 1) := by decide +kernel
theorem zd108_32 : decode zxm108.2.1 32 = .ok (.iload_n 1, 1) := by decide +kernel
theorem zd108_33 : decode zxm108.2.1 33 = .ok (.invokevirtual 146, 3) := by decide +kernel
theorem zd108_36 : decode zxm108.2.1 36 = .ok (.if_icmp .le 5, 3) := by decide +kernel
theorem zd108_39 : decode zxm108.2.1 39 = .ok (.iload_n 2, 1) := by decide +kernel
theorem zd108_40 : decode zxm108.2.1 40 = .ok (.istore_n 1, 1) := by decide +kernel
theorem zd108_41 : decode zxm108.2.1 41 = .ok (.iinc 2 1, 3) := by decide +kernel
theorem zd108_44 : decode zxm108.2.1 44 = .ok (.goto (-40), 3) := by decide +kernel
theorem zd108_47 : decode zxm108.2.1 47 = .ok (.iload_n 1, 1) := by decide +kernel
theorem zd108_48 : decode zxm108.2.1 48 = .ok (.ireturn, 1) := by decide +kernel
theorem zt_View_mostLegged {f0 : Int} {g0 : (Int → Int)} {o : Int} (h : zf_View_mostLegged f0 g0 = some o) : zv_Fn z_TB z_cl z_KX zy_View_mostLegged zxm108 (2, 120) [.inr 0] [.inl f0] [g0] (some o) [.inl f0] [g0] := zv_meth (K := (z_KF11, z_KC11, z_KL11, z_KT11, [], [], [], none)) (FT := z_FT) (MT := z_MT) (n := 1) zxp108 (z_ks11 _ (fun _ h => List.mem_cons_of_mem _ h) _ _ _ _ (fun j r h _ => by cases h)) (fun _ _ => zs_KX_p) zyw_View_mostLegged (fun va F G h => by obtain ⟨rfl, _⟩ := h; rfl) (fun va F G h => by obtain ⟨rfl, _⟩ := h; rfl) rfl fun good va F G hB hret hvret hP => by
  obtain ⟨rfl, rfl, rfl⟩ := hP
  have l0 : ∀ (n : Nat) (x1 : Int) (x2 : Int) (q : Int), zf_View_mostLegged_l0 f0 g0 n x1 x2 = some q → (good 47 [.inr 1000, .inl q, .inr 1000] [] [.inl f0] [g0]) → good 4 [.inr 0, .inl x1, .inl x2] [] [.inl f0] [g0] := by
    intro n
    induction n with
    | zero => intro x1 x2 q h; exact absurd (show none = some q from h) (fun h => by cases h)
    | succ n ih =>
      intro x1 x2 q h hK
      replace h : zf_View_mostLegged_l0_b f0 g0 (zf_View_mostLegged_l0 f0 g0 n) x1 x2 = some q := h
      unfold zf_View_mostLegged_l0_b at h
      refine zv_ild hB zd108_4 rfl rfl ?_
      refine zv_con hB zd108_5 rfl ?_
      refine zv_cge hB zd108_7 rfl (fun hc1 => ?_) (fun hc1 => ?_)
      · rw [if_neg (Int.not_lt.mpr hc1)] at h
        have hq := Option.some.inj h
        subst hq
        refine zv_wk hB (L' := [.inr 1000, .inl x1, .inr 1000]) (F' := [.inl f0]) ⟨fun (h : zv_is (.inr 1000)) => (Nat.lt_irrefl 1000 h).elim, fun _ => rfl, fun (h : zv_is (.inr 1000)) => (Nat.lt_irrefl 1000 h).elim, trivial⟩ ⟨fun _ => rfl, trivial⟩ ?_
        exact hK
      · rw [if_pos hc1] at h
        refine zv_ald hB zd108_10 rfl rfl rfl ?_
        refine zv_getf hB zd108_11 rfl rfl (fun _ _ => ?_)
        refine zv_ild hB zd108_14 rfl rfl ?_
        refine zv_shrw hB zd108_15 ?_
        refine zv_con hB zd108_16 rfl ?_
        refine zv_andw hB zd108_17 ?_
        refine zv_zeq hB zd108_18 rfl (fun hc2 => ?_) (fun hc2 => ?_)
        · rw [if_pos hc2] at h
          refine zv_iincw hB zd108_41 rfl rfl ?_
          refine zv_goto hB zd108_44 rfl ?_
          exact ih _ _ q h hK
        · rw [if_neg hc2] at h
          refine zv_ild hB zd108_21 rfl rfl ?_
          refine zv_con hB zd108_22 rfl ?_
          refine zv_ceq hB zd108_23 rfl (fun hc3 => ?_) (fun hc3 => ?_)
          · rw [if_pos hc3] at h
            refine zv_ild hB zd108_39 rfl rfl ?_
            refine zv_ist hB zd108_40 rfl rfl rfl ?_
            refine zv_iincw hB zd108_41 rfl rfl ?_
            refine zv_goto hB zd108_44 rfl ?_
            exact ih _ _ q h hK
          · rw [if_neg hc3] at h
            refine zv_ald hB zd108_26 rfl rfl rfl ?_
            refine zv_ild hB zd108_27 rfl rfl ?_
            obtain ⟨r4, hr4, h⟩ := zi_bind h
            refine zv_cv hB (zv_emq (va2 := [.inr 0, .inl x2]) (F := [.inl f0]) (F' := [.inl f0]) (G := [g0]) (G' := [g0]) (ρ := [0, 1]) (φ := []) (ψ := [0]) [none] [some 0] zyw_View_legsOf zyw_View_mostLegged zye_View_mostLegged (by decide +kernel) (zt_View_legsOf hr4) trivial ⟨rfl, trivial⟩ rfl rfl rfl rfl rfl rfl rfl) zd108_28 zxt109 rfl (by decide) (by decide) rfl ?_
            refine zv_ald hB zd108_31 rfl rfl rfl ?_
            refine zv_ild hB zd108_32 rfl rfl ?_
            obtain ⟨r5, hr5, h⟩ := zi_bind h
            refine zv_cv hB (zv_emq (va2 := [.inr 0, .inl x1]) (F := [.inl f0]) (F' := [.inl f0]) (G := [g0]) (G' := [g0]) (ρ := [0, 1]) (φ := []) (ψ := [0]) [none] [some 0] zyw_View_legsOf zyw_View_mostLegged zye_View_mostLegged (by decide +kernel) (zt_View_legsOf hr5) trivial ⟨rfl, trivial⟩ rfl rfl rfl rfl rfl rfl rfl) zd108_33 zxt109 rfl (by decide) (by decide) rfl ?_
            refine zv_cle hB zd108_36 rfl (fun hc6 => ?_) (fun hc6 => ?_)
            · rw [if_neg (Int.not_lt.mpr hc6)] at h
              refine zv_iincw hB zd108_41 rfl rfl ?_
              refine zv_goto hB zd108_44 rfl ?_
              exact ih _ _ q h hK
            · rw [if_pos hc6] at h
              refine zv_ild hB zd108_39 rfl rfl ?_
              refine zv_ist hB zd108_40 rfl rfl rfl ?_
              refine zv_iincw hB zd108_41 rfl rfl ?_
              refine zv_goto hB zd108_44 rfl ?_
              exact ih _ _ q h hK
  unfold zf_View_mostLegged at h
  refine zv_con hB zd108_0 rfl ?_
  refine zv_ist hB zd108_1 rfl rfl rfl ?_
  refine zv_con hB zd108_2 rfl ?_
  refine zv_ist hB zd108_3 rfl rfl rfl ?_
  obtain ⟨q7, hq7, h⟩ := zi_bind h
  refine l0 _ _ _ q7 hq7 ?_
  show good 47 [.inr 1000, .inl q7, .inr 1000] [] [.inl f0] [g0]
  refine zv_ild hB zd108_47 rfl rfl ?_
  have hw := Option.some.inj h
  subst hw
  exact hret _ _ _ _ _ zd108_48 (by trivial) ⟨rfl, rfl, rfl⟩
/-! X_sky (III)I -/
-- names: 0 StarTales('arg', 0), 1 View(0, 0, 12), 2 Sky(0, 0, 0), 3 Law(0, 0, 7), 4 (0, 24)(1, 7, 8), 5 (0, 13)(3, 4, 12), 6 (0, 24)(2, 1, 1), 7 (0, 24)(2, 1, 2), 8 (0, 24)(2, 1, 3), 9 (0, 14)(3, 4, 3), 10 (0, 14)(3, 4, 5), 11 (0, 14)(3, 4, 6), 12 (0, 200)(3, 4, 0), 13 (0, 40)(3, 4, 13), 14 (0, 200)(3, 4, 1), 15 (0, 24)(1, 7, 5), 16 (0, 24)(1, 7, 9)
-- fields: f0 = 0.ruling_, f1 = 1.sky_, f2 = 1.law_, f3 = 1.starsAsked_, f4 = 1.x_, f5 = 1.y_, f6 = 2.hour_, f7 = 2.night_, f8 = 1.shown_, f9 = 2.told_, f10 = 2.sightColumns_, f11 = 2.sightRows_, f12 = 2.clouds_, f13 = 3.tellsSeen_, f14 = 1.starsHold_, f15 = 3.clauses_, f16 = 3.answer_, f17 = 3.seenByPlace_, f18 = 3.tellsLines_, f19 = 3.linesByPlace_; arrays: g0 = 4, g1 = 5, g2 = 6, g3 = 7, g4 = 8, g5 = 9, g6 = 10, g7 = 11, g8 = 12, g9 = 13, g10 = 14, g11 = 15, g12 = 16; out: [('ret', None), ('f', 3), ('f', 4), ('f', 5), ('f', 8), ('f', 14), ('f', 16), ('g', 0), ('g', 1), ('g', 9), ('g', 11), ('g', 12)]
abbrev zy_X_sky : zNL := (17, [(0, 0), (1, 7), (2, 1), (3, 4)], [(0, 0, 7, 0), (1, 7, 0, 1), (1, 7, 1, 2), (1, 7, 6, 3), (1, 7, 2, 4), (1, 7, 3, 5), (2, 1, 6, 6), (2, 1, 7, 7), (1, 7, 4, 8), (2, 1, 0, 9), (2, 1, 9, 10), (2, 1, 10, 11), (2, 1, 8, 12), (3, 4, 8, 13), (1, 7, 7, 14), (3, 4, 7, 15), (3, 4, 14, 16), (3, 4, 10, 17), (3, 4, 9, 18), (3, 4, 11, 19)], [(0, 0, 12, 1), (0, 0, 0, 2), (1, 7, 8, 4), (3, 4, 12, 5), (2, 1, 1, 6), (2, 1, 2, 7), (2, 1, 3, 8), (3, 4, 3, 9), (3, 4, 5, 10), (3, 4, 6, 11), (3, 4, 0, 12), (3, 4, 13, 13), (3, 4, 1, 14), (1, 7, 5, 15), (1, 7, 9, 16)], [(4, 0, 24, 0), (5, 0, 13, 1), (6, 0, 24, 2), (7, 0, 24, 3), (8, 0, 24, 4), (9, 0, 14, 5), (10, 0, 14, 6), (11, 0, 14, 7), (12, 0, 200, 8), (13, 0, 40, 9), (14, 0, 200, 10), (15, 0, 24, 11), (16, 0, 24, 12)])
theorem zyw_X_sky : zv_wf zy_X_sky = true := by decide +kernel
theorem zye_X_sky : zv_ek2 zy_X_sky = true := by decide +kernel
def zf_X_sky (x1 : Int) (x2 : Int) (x3 : Int) (f3 : Int) (f4 : Int) (f5 : Int) (f6 : Int) (f7 : Int) (f8 : Int) (f9 : Int) (f10 : Int) (f11 : Int) (f12 : Int) (f13 : Int) (f14 : Int) (f15 : Int) (f16 : Int) (f17 : Int) (f18 : Int) (f19 : Int) (g0 : (Int → Int)) (g1 : (Int → Int)) (g2 : (Int → Int)) (g3 : (Int → Int)) (g4 : (Int → Int)) (g5 : (Int → Int)) (g6 : (Int → Int)) (g7 : (Int → Int)) (g8 : (Int → Int)) (g9 : (Int → Int)) (g10 : (Int → Int)) (g11 : (Int → Int)) (g12 : (Int → Int)) : Option (Int × Int × Int × Int × Int × Int × Int × (Int → Int) × (Int → Int) × (Int → Int) × (Int → Int) × (Int → Int)) := (zf_X_isPlace x1 x2).bind fun r1 => (if r1 = 0 then (some ((-1), f3, f4, f5, f8, f14, f16, g0, g1, g9, g11, g12)) else ((zf_X_isWithin x3 0 6).bind fun r3 => (if r3 = 0 then (some ((-1), f3, f4, f5, f8, f14, f16, g0, g1, g9, g11, g12)) else ((zf_X_lookAndDraw x1 x2 f3 f4 f5 f6 f7 f8 f9 f10 f11 f12 f13 f14 f15 f16 f17 f18 f19 g0 g1 g2 g3 g4 g5 g6 g7 g8 g9 g10 g11 g12).bind fun r5 => ((zf_View_countLines r5.2.2.2.2.2.2.2.2.2.1).bind fun r6 => (if x3 = 0 then (some (r6, r5.1, r5.2.1, r5.2.2.1, r5.2.2.2.1, r5.2.2.2.2.1, r5.2.2.2.2.2.1, r5.2.2.2.2.2.2.1, r5.2.2.2.2.2.2.2.1, r5.2.2.2.2.2.2.2.2.1, r5.2.2.2.2.2.2.2.2.2.1, r5.2.2.2.2.2.2.2.2.2.2)) else (if x3 = 1 then ((zf_View_countFigures r5.2.2.2.1 r5.2.2.2.2.2.2.2.2.2.1).bind fun r9 => (some (r9, r5.1, r5.2.1, r5.2.2.1, r5.2.2.2.1, r5.2.2.2.2.1, r5.2.2.2.2.2.1, r5.2.2.2.2.2.2.1, r5.2.2.2.2.2.2.2.1, r5.2.2.2.2.2.2.2.2.1, r5.2.2.2.2.2.2.2.2.2.1, r5.2.2.2.2.2.2.2.2.2.2))) else (if x3 = 2 then ((zf_View_largestFigure r5.2.2.2.1 r5.2.2.2.2.2.2.2.2.2.1).bind fun r11 => (some (r11, r5.1, r5.2.1, r5.2.2.1, r5.2.2.2.1, r5.2.2.2.2.1, r5.2.2.2.2.2.1, r5.2.2.2.2.2.2.1, r5.2.2.2.2.2.2.2.1, r5.2.2.2.2.2.2.2.2.1, r5.2.2.2.2.2.2.2.2.2.1, r5.2.2.2.2.2.2.2.2.2.2))) else (if x3 = 3 then ((zf_Integer_bitCount r5.2.2.2.1).bind fun r13 => ((zf_View_countFigures r5.2.2.2.1 r5.2.2.2.2.2.2.2.2.2.1).bind fun r14 => (some ((zi_w ((zi_w (r6 - r13)) + r14)), r5.1, r5.2.1, r5.2.2.1, r5.2.2.2.1, r5.2.2.2.2.1, r5.2.2.2.2.2.1, r5.2.2.2.2.2.2.1, r5.2.2.2.2.2.2.2.1, r5.2.2.2.2.2.2.2.2.1, r5.2.2.2.2.2.2.2.2.2.1, r5.2.2.2.2.2.2.2.2.2.2)))) else (if x3 = 4 then ((zf_View_countHolding r5.2.2.2.2.2.2.2.2.2.1).bind fun r16 => (some (r16, r5.1, r5.2.1, r5.2.2.1, r5.2.2.2.1, r5.2.2.2.2.1, r5.2.2.2.2.2.1, r5.2.2.2.2.2.2.1, r5.2.2.2.2.2.2.2.1, r5.2.2.2.2.2.2.2.2.1, r5.2.2.2.2.2.2.2.2.2.1, r5.2.2.2.2.2.2.2.2.2.2))) else (if x3 = 5 then ((zf_View_mostLegged r5.2.2.2.1 r5.2.2.2.2.2.2.2.2.2.1).bind fun r18 => (some (r18, r5.1, r5.2.1, r5.2.2.1, r5.2.2.2.1, r5.2.2.2.2.1, r5.2.2.2.2.2.1, r5.2.2.2.2.2.2.1, r5.2.2.2.2.2.2.2.1, r5.2.2.2.2.2.2.2.2.1, r5.2.2.2.2.2.2.2.2.2.1, r5.2.2.2.2.2.2.2.2.2.2))) else ((zf_View_mostLegged r5.2.2.2.1 r5.2.2.2.2.2.2.2.2.2.1).bind fun r19 => ((zf_View_legsOf r19 r5.2.2.2.2.2.2.2.2.2.1).bind fun r20 => (some (r20, r5.1, r5.2.1, r5.2.2.1, r5.2.2.2.1, r5.2.2.2.2.1, r5.2.2.2.2.2.1, r5.2.2.2.2.2.2.1, r5.2.2.2.2.2.2.2.1, r5.2.2.2.2.2.2.2.2.1, r5.2.2.2.2.2.2.2.2.2.1, r5.2.2.2.2.2.2.2.2.2.2)))))))))))))))
theorem zd100_0 : decode zxm100.2.1 0 = .ok (.iload_n 1, 1) := by decide +kernel
theorem zd100_1 : decode zxm100.2.1 1 = .ok (.iload_n 2, 1) := by decide +kernel
theorem zd100_2 : decode zxm100.2.1 2 = .ok (.invokestatic 130, 3) := by decide +kernel
theorem zd100_5 : decode zxm100.2.1 5 = .ok (.ifCond .eq 13, 3) := by decide +kernel
theorem zd100_8 : decode zxm100.2.1 8 = .ok (.iload_n 3, 1) := by decide +kernel
theorem zd100_9 : decode zxm100.2.1 9 = .ok (.iconst 0, 1) := by decide +kernel
theorem zd100_10 : decode zxm100.2.1 10 = .ok (.bipush 6, 2) := by decide +kernel
theorem zd100_12 : decode zxm100.2.1 12 = .ok (.invokestatic 126, 3) := by decide +kernel
theorem zd100_15 : decode zxm100.2.1 15 = .ok (.ifCond .ne 5, 3) := by decide +kernel
theorem zd100_18 : decode zxm100.2.1 18 = .ok (.iconst (-1), 1) := by decide +kernel
theorem zd100_19 : decode zxm100.2.1 19 = .ok (.ireturn, 1) := by decide +kernel
theorem zd100_20 : decode zxm100.2.1 20 = .ok (.aload_n 0, 1) := by decide +kernel
theorem zd100_21 : decode zxm100.2.1 21 = .ok (.aload_n 0, 1) := by decide +kernel
theorem zd100_22 : decode zxm100.2.1 22 = .ok (.getfield 81, 3) := by decide +kernel
theorem zd100_25 : decode zxm100.2.1 25 = .ok (.iload_n 1, 1) := by decide +kernel
theorem zd100_26 : decode zxm100.2.1 26 = .ok (.iload_n 2, 1) := by decide +kernel
theorem zd100_27 : decode zxm100.2.1 27 = .ok (.invokevirtual 221, 3) := by decide +kernel
theorem zd100_30 : decode zxm100.2.1 30 = .ok (.aload_n 0, 1) := by decide +kernel
theorem zd100_31 : decode zxm100.2.1 31 = .ok (.getfield 81, 3) := by decide +kernel
theorem zd100_34 : decode zxm100.2.1 34 = .ok (.invokevirtual 225, 3) := by decide +kernel
theorem zd100_37 : decode zxm100.2.1 37 = .ok (.istore 4, 2) := by decide +kernel
theorem zd100_39 : decode zxm100.2.1 39 = .ok (.iload_n 3, 1) := by decide +kernel
theorem zd100_40 : decode zxm100.2.1 40 = .ok (.tableswitch 97 0 5 #[40, 43, 51, 59, 81, 89], 40) := by decide +kernel
theorem zd100_80 : decode zxm100.2.1 80 = .ok (.iload 4, 2) := by decide +kernel
theorem zd100_82 : decode zxm100.2.1 82 = .ok (.ireturn, 1) := by decide +kernel
theorem zd100_83 : decode zxm100.2.1 83 = .ok (.aload_n 0, 1) := by decide +kernel
theorem zd100_84 : decode zxm100.2.1 84 = .ok (.getfield 81, 3) := by decide +kernel
theorem zd100_87 : decode zxm100.2.1 87 = .ok (.invokevirtual 229, 3) := by decide +kernel
theorem zd100_90 : decode zxm100.2.1 90 = .ok (.ireturn, 1) := by decide +kernel
theorem zd100_91 : decode zxm100.2.1 91 = .ok (.aload_n 0, 1) := by decide +kernel
theorem zd100_92 : decode zxm100.2.1 92 = .ok (.getfield 81, 3) := by decide +kernel
theorem zd100_95 : decode zxm100.2.1 95 = .ok (.invokevirtual 232, 3) := by decide +kernel
theorem zd100_98 : decode zxm100.2.1 98 = .ok (.ireturn, 1) := by decide +kernel
theorem zd100_99 : decode zxm100.2.1 99 = .ok (.iload 4, 2) := by decide +kernel
theorem zd100_101 : decode zxm100.2.1 101 = .ok (.aload_n 0, 1) := by decide +kernel
theorem zd100_102 : decode zxm100.2.1 102 = .ok (.getfield 81, 3) := by decide +kernel
theorem zd100_105 : decode zxm100.2.1 105 = .ok (.getfield 218, 3) := by decide +kernel
theorem zd100_108 : decode zxm100.2.1 108 = .ok (.invokestatic 235, 3) := by decide +kernel
theorem zd100_111 : decode zxm100.2.1 111 = .ok (.isub, 1) := by decide +kernel
theorem zd100_112 : decode zxm100.2.1 112 = .ok (.aload_n 0, 1) := by decide +kernel
theorem zd100_113 : decode zxm100.2.1 113 = .ok (.getfield 81, 3) := by decide +kernel
theorem zd100_116 : decode zxm100.2.1 116 = .ok (.invokevirtual 229, 3) := by decide +kernel
theorem zd100_119 : decode zxm100.2.1 119 = .ok (.iadd, 1) := by decide +kernel
theorem zd100_120 : decode zxm100.2.1 120 = .ok (.ireturn, 1) := by decide +kernel
theorem zd100_121 : decode zxm100.2.1 121 = .ok (.aload_n 0, 1) := by decide +kernel
theorem zd100_122 : decode zxm100.2.1 122 = .ok (.getfield 81, 3) := by decide +kernel
theorem zd100_125 : decode zxm100.2.1 125 = .ok (.invokevirtual 240, 3) := by decide +kernel
theorem zd100_128 : decode zxm100.2.1 128 = .ok (.ireturn, 1) := by decide +kernel
theorem zd100_129 : decode zxm100.2.1 129 = .ok (.aload_n 0, 1) := by decide +kernel
theorem zd100_130 : decode zxm100.2.1 130 = .ok (.getfield 81, 3) := by decide +kernel
theorem zd100_133 : decode zxm100.2.1 133 = .ok (.invokevirtual 243, 3) := by decide +kernel
theorem zd100_136 : decode zxm100.2.1 136 = .ok (.ireturn, 1) := by decide +kernel
theorem zd100_137 : decode zxm100.2.1 137 = .ok (.aload_n 0, 1) := by decide +kernel
theorem zd100_138 : decode zxm100.2.1 138 = .ok (.getfield 81, 3) := by decide +kernel
theorem zd100_141 : decode zxm100.2.1 141 = .ok (.aload_n 0, 1) := by decide +kernel
theorem zd100_142 : decode zxm100.2.1 142 = .ok (.getfield 81, 3) := by decide +kernel
theorem zd100_145 : decode zxm100.2.1 145 = .ok (.invokevirtual 243, 3) := by decide +kernel
theorem zd100_148 : decode zxm100.2.1 148 = .ok (.invokevirtual 246, 3) := by decide +kernel
theorem zd100_151 : decode zxm100.2.1 151 = .ok (.ireturn, 1) := by decide +kernel
theorem zt_X_sky {x1 : Int} {x2 : Int} {x3 : Int} {f3 : Int} {f4 : Int} {f5 : Int} {f6 : Int} {f7 : Int} {f8 : Int} {f9 : Int} {f10 : Int} {f11 : Int} {f12 : Int} {f13 : Int} {f14 : Int} {f15 : Int} {f16 : Int} {f17 : Int} {f18 : Int} {f19 : Int} {g0 : (Int → Int)} {g1 : (Int → Int)} {g2 : (Int → Int)} {g3 : (Int → Int)} {g4 : (Int → Int)} {g5 : (Int → Int)} {g6 : (Int → Int)} {g7 : (Int → Int)} {g8 : (Int → Int)} {g9 : (Int → Int)} {g10 : (Int → Int)} {g11 : (Int → Int)} {g12 : (Int → Int)} {o : Int × Int × Int × Int × Int × Int × Int × (Int → Int) × (Int → Int) × (Int → Int) × (Int → Int) × (Int → Int)} (h : zf_X_sky x1 x2 x3 f3 f4 f5 f6 f7 f8 f9 f10 f11 f12 f13 f14 f15 f16 f17 f18 f19 g0 g1 g2 g3 g4 g5 g6 g7 g8 g9 g10 g11 g12 = some o) : zv_Fn z_TB z_cl z_KX zy_X_sky zxm100 (6, 360) [.inr 0, .inl x1, .inl x2, .inl x3] [.inr 3, .inr 1000, .inr 1000, .inl f3, .inl f4, .inl f5, .inl f6, .inl f7, .inl f8, .inl f9, .inl f10, .inl f11, .inl f12, .inl f13, .inl f14, .inl f15, .inl f16, .inl f17, .inl f18, .inl f19] [g0, g1, g2, g3, g4, g5, g6, g7, g8, g9, g10, g11, g12] (some o.1) [.inr 3, .inr 1000, .inr 1000, .inl o.2.1, .inl o.2.2.1, .inl o.2.2.2.1, .inl f6, .inl f7, .inl o.2.2.2.2.1, .inl f9, .inl f10, .inl f11, .inl f12, .inl f13, .inl o.2.2.2.2.2.1, .inl f15, .inl o.2.2.2.2.2.2.1, .inl f17, .inl f18, .inl f19] [o.2.2.2.2.2.2.2.1, o.2.2.2.2.2.2.2.2.1, g2, g3, g4, g5, g6, g7, g8, o.2.2.2.2.2.2.2.2.2.1, g10, o.2.2.2.2.2.2.2.2.2.2.1, o.2.2.2.2.2.2.2.2.2.2.2] := zv_meth (K := (z_KF0, z_KC0, z_KL0, z_KT0, [], [], [], none)) (FT := z_FT) (MT := z_MT) (n := 4) zxp100 (z_ks0 _ (fun _ h => List.mem_cons_of_mem _ h) _ _ _ _ (fun j r h _ => by cases h)) (fun _ _ => zs_KX_p) zyw_X_sky (fun va F G h => by obtain ⟨rfl, _⟩ := h; rfl) (fun va F G h => by obtain ⟨rfl, _⟩ := h; rfl) rfl fun good va F G hB hret hvret hP => by
  obtain ⟨rfl, rfl, rfl⟩ := hP
  unfold zf_X_sky at h
  refine zv_ild hB zd100_0 rfl rfl ?_
  refine zv_ild hB zd100_1 rfl rfl ?_
  obtain ⟨r1, hr1, h⟩ := zi_bind h
  refine zv_cs hB (zv_emq (va2 := [.inl x1, .inl x2]) (F := [.inr 3, .inr 1000, .inr 1000, .inl f3, .inl f4, .inl f5, .inl f6, .inl f7, .inl f8, .inl f9, .inl f10, .inl f11, .inl f12, .inl f13, .inl f14, .inl f15, .inl f16, .inl f17, .inl f18, .inl f19]) (F' := [.inr 3, .inr 1000, .inr 1000, .inl f3, .inl f4, .inl f5, .inl f6, .inl f7, .inl f8, .inl f9, .inl f10, .inl f11, .inl f12, .inl f13, .inl f14, .inl f15, .inl f16, .inl f17, .inl f18, .inl f19]) (G := [g0, g1, g2, g3, g4, g5, g6, g7, g8, g9, g10, g11, g12]) (G' := [g0, g1, g2, g3, g4, g5, g6, g7, g8, g9, g10, g11, g12]) (ρ := []) (φ := []) (ψ := []) [none, none, none, none, none, none, none, none, none, none, none, none, none, none, none, none, none, none, none, none] [none, none, none, none, none, none, none, none, none, none, none, none, none] zyw_X_isPlace zyw_X_sky zye_X_sky (by decide +kernel) (zt_X_isPlace hr1) trivial trivial rfl rfl rfl rfl rfl rfl rfl) zd100_2 zxt16 rfl (by decide) (by decide) rfl ?_
  refine zv_zeq hB zd100_5 rfl (fun hc2 => ?_) (fun hc2 => ?_)
  · rw [if_pos hc2] at h
    refine zv_con hB zd100_18 rfl ?_
    have hw := Option.some.inj h
    subst hw
    exact hret _ _ _ _ _ zd100_19 (by trivial) ⟨rfl, rfl, rfl⟩
  · rw [if_neg hc2] at h
    refine zv_ild hB zd100_8 rfl rfl ?_
    refine zv_con hB zd100_9 rfl ?_
    refine zv_con hB zd100_10 rfl ?_
    obtain ⟨r3, hr3, h⟩ := zi_bind h
    refine zv_cs hB (zv_emq (va2 := [.inl x3, .inl 0, .inl 6]) (F := [.inr 3, .inr 1000, .inr 1000, .inl f3, .inl f4, .inl f5, .inl f6, .inl f7, .inl f8, .inl f9, .inl f10, .inl f11, .inl f12, .inl f13, .inl f14, .inl f15, .inl f16, .inl f17, .inl f18, .inl f19]) (F' := [.inr 3, .inr 1000, .inr 1000, .inl f3, .inl f4, .inl f5, .inl f6, .inl f7, .inl f8, .inl f9, .inl f10, .inl f11, .inl f12, .inl f13, .inl f14, .inl f15, .inl f16, .inl f17, .inl f18, .inl f19]) (G := [g0, g1, g2, g3, g4, g5, g6, g7, g8, g9, g10, g11, g12]) (G' := [g0, g1, g2, g3, g4, g5, g6, g7, g8, g9, g10, g11, g12]) (ρ := []) (φ := []) (ψ := []) [none, none, none, none, none, none, none, none, none, none, none, none, none, none, none, none, none, none, none, none] [none, none, none, none, none, none, none, none, none, none, none, none, none] zyw_X_isWithin zyw_X_sky zye_X_sky (by decide +kernel) (zt_X_isWithin hr3) trivial trivial rfl rfl rfl rfl rfl rfl rfl) zd100_12 zxt15 rfl (by decide) (by decide) rfl ?_
    refine zv_zne hB zd100_15 rfl (fun hc4 => ?_) (fun hc4 => ?_)
    · rw [if_neg hc4] at h
      refine zv_ald hB zd100_20 rfl rfl rfl ?_
      refine zv_ald hB zd100_21 rfl rfl rfl ?_
      refine zv_getr hB zd100_22 rfl ?_
      refine zv_ild hB zd100_25 rfl rfl ?_
      refine zv_ild hB zd100_26 rfl rfl ?_
      obtain ⟨r5, hr5, h⟩ := zi_bind h
      refine zv_cv hB (zv_emq (va2 := [.inr 0, .inr 1, .inl x1, .inl x2]) (F := [.inr 3, .inr 1000, .inr 1000, .inl f3, .inl f4, .inl f5, .inl f6, .inl f7, .inl f8, .inl f9, .inl f10, .inl f11, .inl f12, .inl f13, .inl f14, .inl f15, .inl f16, .inl f17, .inl f18, .inl f19]) (F' := [.inr 3, .inr 2, .inr 3, .inl r5.1, .inl r5.2.1, .inl r5.2.2.1, .inl f6, .inl f7, .inl r5.2.2.2.1, .inl f9, .inl f10, .inl f11, .inl f12, .inl f13, .inl r5.2.2.2.2.1, .inl f15, .inl r5.2.2.2.2.2.1, .inl f17, .inl f18, .inl f19]) (G := [g0, g1, g2, g3, g4, g5, g6, g7, g8, g9, g10, g11, g12]) (G' := [r5.2.2.2.2.2.2.1, r5.2.2.2.2.2.2.2.1, g2, g3, g4, g5, g6, g7, g8, r5.2.2.2.2.2.2.2.2.1, g10, r5.2.2.2.2.2.2.2.2.2.1, r5.2.2.2.2.2.2.2.2.2.2]) (ρ := [0, 1, 2, 3, 4, 5, 6, 7, 8, 9, 10, 11, 12, 13, 14, 15, 16]) (φ := [0, 1, 2, 3, 4, 5, 6, 7, 8, 9, 10, 11, 12, 13, 14, 15, 16, 17, 18, 19]) (ψ := [0, 1, 2, 3, 4, 5, 6, 7, 8, 9, 10, 11, 12]) [some 0, some 1, some 2, some 3, some 4, some 5, some 6, some 7, some 8, some 9, some 10, some 11, some 12, some 13, some 14, some 15, some 16, some 17, some 18, some 19] [some 0, some 1, some 2, some 3, some 4, some 5, some 6, some 7, some 8, some 9, some 10, some 11, some 12] zyw_X_lookAndDraw zyw_X_sky zye_X_sky (by decide +kernel) (zt_X_lookAndDraw hr5) ⟨⟨_, rfl, fun _ => rfl⟩, ⟨_, rfl, fun (h : zv_is (.inr 1000)) => (Nat.lt_irrefl 1000 h).elim⟩, ⟨_, rfl, fun (h : zv_is (.inr 1000)) => (Nat.lt_irrefl 1000 h).elim⟩, ⟨_, rfl, fun _ => rfl⟩, ⟨_, rfl, fun _ => rfl⟩, ⟨_, rfl, fun _ => rfl⟩, ⟨_, rfl, fun _ => rfl⟩, ⟨_, rfl, fun _ => rfl⟩, ⟨_, rfl, fun _ => rfl⟩, ⟨_, rfl, fun _ => rfl⟩, ⟨_, rfl, fun _ => rfl⟩, ⟨_, rfl, fun _ => rfl⟩, ⟨_, rfl, fun _ => rfl⟩, ⟨_, rfl, fun _ => rfl⟩, ⟨_, rfl, fun _ => rfl⟩, ⟨_, rfl, fun _ => rfl⟩, ⟨_, rfl, fun _ => rfl⟩, ⟨_, rfl, fun _ => rfl⟩, ⟨_, rfl, fun _ => rfl⟩, ⟨_, rfl, fun _ => rfl⟩, trivial⟩ ⟨rfl, rfl, rfl, rfl, rfl, rfl, rfl, rfl, rfl, rfl, rfl, rfl, rfl, trivial⟩ rfl rfl rfl rfl rfl rfl rfl) zd100_27 zxt96 rfl (by decide) (by decide) rfl ?_
      refine zv_ald hB zd100_30 rfl rfl rfl ?_
      refine zv_getr hB zd100_31 rfl ?_
      obtain ⟨r6, hr6, h⟩ := zi_bind h
      refine zv_cv hB (zv_emq (va2 := [.inr 1]) (F := [.inr 3, .inr 2, .inr 3, .inl r5.1, .inl r5.2.1, .inl r5.2.2.1, .inl f6, .inl f7, .inl r5.2.2.2.1, .inl f9, .inl f10, .inl f11, .inl f12, .inl f13, .inl r5.2.2.2.2.1, .inl f15, .inl r5.2.2.2.2.2.1, .inl f17, .inl f18, .inl f19]) (F' := [.inr 3, .inr 2, .inr 3, .inl r5.1, .inl r5.2.1, .inl r5.2.2.1, .inl f6, .inl f7, .inl r5.2.2.2.1, .inl f9, .inl f10, .inl f11, .inl f12, .inl f13, .inl r5.2.2.2.2.1, .inl f15, .inl r5.2.2.2.2.2.1, .inl f17, .inl f18, .inl f19]) (G := [r5.2.2.2.2.2.2.1, r5.2.2.2.2.2.2.2.1, g2, g3, g4, g5, g6, g7, g8, r5.2.2.2.2.2.2.2.2.1, g10, r5.2.2.2.2.2.2.2.2.2.1, r5.2.2.2.2.2.2.2.2.2.2]) (G' := [r5.2.2.2.2.2.2.1, r5.2.2.2.2.2.2.2.1, g2, g3, g4, g5, g6, g7, g8, r5.2.2.2.2.2.2.2.2.1, g10, r5.2.2.2.2.2.2.2.2.2.1, r5.2.2.2.2.2.2.2.2.2.2]) (ρ := [1, 15]) (φ := []) (ψ := [11]) [none, none, none, none, none, none, none, none, none, none, none, none, none, none, none, none, none, none, none, none] [none, none, none, none, none, none, none, none, none, none, none, some 0, none] zyw_View_countLines zyw_X_sky zye_X_sky (by decide +kernel) (zt_View_countLines hr6) trivial ⟨rfl, trivial⟩ rfl rfl rfl rfl rfl rfl rfl) zd100_34 zxt101 rfl (by decide) (by decide) rfl ?_
      refine zv_ist hB zd100_37 rfl rfl rfl ?_
      refine zv_ild hB zd100_39 rfl rfl ?_
      refine zv_tsw hB zd100_40 rfl ?_
      refine ⟨fun hc7 => ⟨_, rfl, ?_⟩, fun hc7 => ?_⟩
      · replace hc7 : x3 = 0 := hc7
        rw [if_pos hc7] at h
        refine zv_ild hB zd100_80 rfl rfl ?_
        have hw := Option.some.inj h
        refine zv_wk hB (L' := [.inr 0, .inl x1, .inl x2, .inl x3, .inl r6]) (F' := [.inr 3, .inr 1000, .inr 1000, .inl r5.1, .inl r5.2.1, .inl r5.2.2.1, .inl f6, .inl f7, .inl r5.2.2.2.1, .inl f9, .inl f10, .inl f11, .inl f12, .inl f13, .inl r5.2.2.2.2.1, .inl f15, .inl r5.2.2.2.2.2.1, .inl f17, .inl f18, .inl f19]) ⟨fun _ => rfl, fun _ => rfl, fun _ => rfl, fun _ => rfl, fun _ => rfl, trivial⟩ ⟨fun _ => rfl, fun (h : zv_is (.inr 1000)) => (Nat.lt_irrefl 1000 h).elim, fun (h : zv_is (.inr 1000)) => (Nat.lt_irrefl 1000 h).elim, fun _ => rfl, fun _ => rfl, fun _ => rfl, fun _ => rfl, fun _ => rfl, fun _ => rfl, fun _ => rfl, fun _ => rfl, fun _ => rfl, fun _ => rfl, fun _ => rfl, fun _ => rfl, fun _ => rfl, fun _ => rfl, fun _ => rfl, fun _ => rfl, fun _ => rfl, trivial⟩ ?_
        subst hw
        exact hret _ _ _ _ _ zd100_82 (by trivial) ⟨rfl, rfl, rfl⟩
      replace hc7 : x3 ≠ 0 := hc7
      rw [if_neg hc7] at h
      refine ⟨fun hc8 => ⟨_, rfl, ?_⟩, fun hc8 => ?_⟩
      · replace hc8 : x3 = 1 := hc8
        rw [if_pos hc8] at h
        refine zv_ald hB zd100_83 rfl rfl rfl ?_
        refine zv_getr hB zd100_84 rfl ?_
        obtain ⟨r9, hr9, h⟩ := zi_bind h
        refine zv_cv hB (zv_emq (va2 := [.inr 1]) (F := [.inr 3, .inr 2, .inr 3, .inl r5.1, .inl r5.2.1, .inl r5.2.2.1, .inl f6, .inl f7, .inl r5.2.2.2.1, .inl f9, .inl f10, .inl f11, .inl f12, .inl f13, .inl r5.2.2.2.2.1, .inl f15, .inl r5.2.2.2.2.2.1, .inl f17, .inl f18, .inl f19]) (F' := [.inr 3, .inr 2, .inr 3, .inl r5.1, .inl r5.2.1, .inl r5.2.2.1, .inl f6, .inl f7, .inl r5.2.2.2.1, .inl f9, .inl f10, .inl f11, .inl f12, .inl f13, .inl r5.2.2.2.2.1, .inl f15, .inl r5.2.2.2.2.2.1, .inl f17, .inl f18, .inl f19]) (G := [r5.2.2.2.2.2.2.1, r5.2.2.2.2.2.2.2.1, g2, g3, g4, g5, g6, g7, g8, r5.2.2.2.2.2.2.2.2.1, g10, r5.2.2.2.2.2.2.2.2.2.1, r5.2.2.2.2.2.2.2.2.2.2]) (G' := [r5.2.2.2.2.2.2.1, r5.2.2.2.2.2.2.2.1, g2, g3, g4, g5, g6, g7, g8, r5.2.2.2.2.2.2.2.2.1, g10, r5.2.2.2.2.2.2.2.2.2.1, r5.2.2.2.2.2.2.2.2.2.2]) (ρ := [1, 15]) (φ := [8]) (ψ := [11]) [none, none, none, none, none, none, none, none, some 0, none, none, none, none, none, none, none, none, none, none, none] [none, none, none, none, none, none, none, none, none, none, none, some 0, none] zyw_View_countFigures zyw_X_sky zye_X_sky (by decide +kernel) (zt_View_countFigures hr9) ⟨⟨_, rfl, fun _ => rfl⟩, trivial⟩ ⟨rfl, trivial⟩ rfl rfl rfl rfl rfl rfl rfl) zd100_87 zxt103 rfl (by decide) (by decide) rfl ?_
        have hw := Option.some.inj h
        refine zv_wk hB (L' := [.inr 0, .inl x1, .inl x2, .inl x3, .inl r6]) (F' := [.inr 3, .inr 1000, .inr 1000, .inl r5.1, .inl r5.2.1, .inl r5.2.2.1, .inl f6, .inl f7, .inl r5.2.2.2.1, .inl f9, .inl f10, .inl f11, .inl f12, .inl f13, .inl r5.2.2.2.2.1, .inl f15, .inl r5.2.2.2.2.2.1, .inl f17, .inl f18, .inl f19]) ⟨fun _ => rfl, fun _ => rfl, fun _ => rfl, fun _ => rfl, fun _ => rfl, trivial⟩ ⟨fun _ => rfl, fun (h : zv_is (.inr 1000)) => (Nat.lt_irrefl 1000 h).elim, fun (h : zv_is (.inr 1000)) => (Nat.lt_irrefl 1000 h).elim, fun _ => rfl, fun _ => rfl, fun _ => rfl, fun _ => rfl, fun _ => rfl, fun _ => rfl, fun _ => rfl, fun _ => rfl, fun _ => rfl, fun _ => rfl, fun _ => rfl, fun _ => rfl, fun _ => rfl, fun _ => rfl, fun _ => rfl, fun _ => rfl, fun _ => rfl, trivial⟩ ?_
        subst hw
        exact hret _ _ _ _ _ zd100_90 (by trivial) ⟨rfl, rfl, rfl⟩
      replace hc8 : x3 ≠ 1 := hc8
      rw [if_neg hc8] at h
      refine ⟨fun hc10 => ⟨_, rfl, ?_⟩, fun hc10 => ?_⟩
      · replace hc10 : x3 = 2 := hc10
        rw [if_pos hc10] at h
        refine zv_ald hB zd100_91 rfl rfl rfl ?_
        refine zv_getr hB zd100_92 rfl ?_
        obtain ⟨r11, hr11, h⟩ := zi_bind h
        refine zv_cv hB (zv_emq (va2 := [.inr 1]) (F := [.inr 3, .inr 2, .inr 3, .inl r5.1, .inl r5.2.1, .inl r5.2.2.1, .inl f6, .inl f7, .inl r5.2.2.2.1, .inl f9, .inl f10, .inl f11, .inl f12, .inl f13, .inl r5.2.2.2.2.1, .inl f15, .inl r5.2.2.2.2.2.1, .inl f17, .inl f18, .inl f19]) (F' := [.inr 3, .inr 2, .inr 3, .inl r5.1, .inl r5.2.1, .inl r5.2.2.1, .inl f6, .inl f7, .inl r5.2.2.2.1, .inl f9, .inl f10, .inl f11, .inl f12, .inl f13, .inl r5.2.2.2.2.1, .inl f15, .inl r5.2.2.2.2.2.1, .inl f17, .inl f18, .inl f19]) (G := [r5.2.2.2.2.2.2.1, r5.2.2.2.2.2.2.2.1, g2, g3, g4, g5, g6, g7, g8, r5.2.2.2.2.2.2.2.2.1, g10, r5.2.2.2.2.2.2.2.2.2.1, r5.2.2.2.2.2.2.2.2.2.2]) (G' := [r5.2.2.2.2.2.2.1, r5.2.2.2.2.2.2.2.1, g2, g3, g4, g5, g6, g7, g8, r5.2.2.2.2.2.2.2.2.1, g10, r5.2.2.2.2.2.2.2.2.2.1, r5.2.2.2.2.2.2.2.2.2.2]) (ρ := [1, 15]) (φ := [8]) (ψ := [11]) [none, none, none, none, none, none, none, none, some 0, none, none, none, none, none, none, none, none, none, none, none] [none, none, none, none, none, none, none, none, none, none, none, some 0, none] zyw_View_largestFigure zyw_X_sky zye_X_sky (by decide +kernel) (zt_View_largestFigure hr11) ⟨⟨_, rfl, fun _ => rfl⟩, trivial⟩ ⟨rfl, trivial⟩ rfl rfl rfl rfl rfl rfl rfl) zd100_95 zxt106 rfl (by decide) (by decide) rfl ?_
        have hw := Option.some.inj h
        refine zv_wk hB (L' := [.inr 0, .inl x1, .inl x2, .inl x3, .inl r6]) (F' := [.inr 3, .inr 1000, .inr 1000, .inl r5.1, .inl r5.2.1, .inl r5.2.2.1, .inl f6, .inl f7, .inl r5.2.2.2.1, .inl f9, .inl f10, .inl f11, .inl f12, .inl f13, .inl r5.2.2.2.2.1, .inl f15, .inl r5.2.2.2.2.2.1, .inl f17, .inl f18, .inl f19]) ⟨fun _ => rfl, fun _ => rfl, fun _ => rfl, fun _ => rfl, fun _ => rfl, trivial⟩ ⟨fun _ => rfl, fun (h : zv_is (.inr 1000)) => (Nat.lt_irrefl 1000 h).elim, fun (h : zv_is (.inr 1000)) => (Nat.lt_irrefl 1000 h).elim, fun _ => rfl, fun _ => rfl, fun _ => rfl, fun _ => rfl, fun _ => rfl, fun _ => rfl, fun _ => rfl, fun _ => rfl, fun _ => rfl, fun _ => rfl, fun _ => rfl, fun _ => rfl, fun _ => rfl, fun _ => rfl, fun _ => rfl, fun _ => rfl, fun _ => rfl, trivial⟩ ?_
        subst hw
        exact hret _ _ _ _ _ zd100_98 (by trivial) ⟨rfl, rfl, rfl⟩
      replace hc10 : x3 ≠ 2 := hc10
      rw [if_neg hc10] at h
      refine ⟨fun hc12 => ⟨_, rfl, ?_⟩, fun hc12 => ?_⟩
      · replace hc12 : x3 = 3 := hc12
        rw [if_pos hc12] at h
        refine zv_ild hB zd100_99 rfl rfl ?_
        refine zv_ald hB zd100_101 rfl rfl rfl ?_
        refine zv_getr hB zd100_102 rfl ?_
        refine zv_getf hB zd100_105 rfl rfl (fun _ _ => ?_)
        obtain ⟨r13, hr13, h⟩ := zi_bind h
        refine zv_cs hB (zv_emq (va2 := [.inl r5.2.2.2.1]) (F := [.inr 3, .inr 2, .inr 3, .inl r5.1, .inl r5.2.1, .inl r5.2.2.1, .inl f6, .inl f7, .inl r5.2.2.2.1, .inl f9, .inl f10, .inl f11, .inl f12, .inl f13, .inl r5.2.2.2.2.1, .inl f15, .inl r5.2.2.2.2.2.1, .inl f17, .inl f18, .inl f19]) (F' := [.inr 3, .inr 2, .inr 3, .inl r5.1, .inl r5.2.1, .inl r5.2.2.1, .inl f6, .inl f7, .inl r5.2.2.2.1, .inl f9, .inl f10, .inl f11, .inl f12, .inl f13, .inl r5.2.2.2.2.1, .inl f15, .inl r5.2.2.2.2.2.1, .inl f17, .inl f18, .inl f19]) (G := [r5.2.2.2.2.2.2.1, r5.2.2.2.2.2.2.2.1, g2, g3, g4, g5, g6, g7, g8, r5.2.2.2.2.2.2.2.2.1, g10, r5.2.2.2.2.2.2.2.2.2.1, r5.2.2.2.2.2.2.2.2.2.2]) (G' := [r5.2.2.2.2.2.2.1, r5.2.2.2.2.2.2.2.1, g2, g3, g4, g5, g6, g7, g8, r5.2.2.2.2.2.2.2.2.1, g10, r5.2.2.2.2.2.2.2.2.2.1, r5.2.2.2.2.2.2.2.2.2.2]) (ρ := []) (φ := []) (ψ := []) [none, none, none, none, none, none, none, none, none, none, none, none, none, none, none, none, none, none, none, none] [none, none, none, none, none, none, none, none, none, none, none, none, none] zyw_Integer_bitCount zyw_X_sky zye_X_sky (by decide +kernel) (zt_Integer_bitCount hr13) trivial trivial rfl rfl rfl rfl rfl rfl rfl) zd100_108 zxt102 rfl (by decide) (by decide) rfl ?_
        refine zv_subw hB zd100_111 ?_
        refine zv_ald hB zd100_112 rfl rfl rfl ?_
        refine zv_getr hB zd100_113 rfl ?_
        obtain ⟨r14, hr14, h⟩ := zi_bind h
        refine zv_cv hB (zv_emq (va2 := [.inr 1]) (F := [.inr 3, .inr 2, .inr 3, .inl r5.1, .inl r5.2.1, .inl r5.2.2.1, .inl f6, .inl f7, .inl r5.2.2.2.1, .inl f9, .inl f10, .inl f11, .inl f12, .inl f13, .inl r5.2.2.2.2.1, .inl f15, .inl r5.2.2.2.2.2.1, .inl f17, .inl f18, .inl f19]) (F' := [.inr 3, .inr 2, .inr 3, .inl r5.1, .inl r5.2.1, .inl r5.2.2.1, .inl f6, .inl f7, .inl r5.2.2.2.1, .inl f9, .inl f10, .inl f11, .inl f12, .inl f13, .inl r5.2.2.2.2.1, .inl f15, .inl r5.2.2.2.2.2.1, .inl f17, .inl f18, .inl f19]) (G := [r5.2.2.2.2.2.2.1, r5.2.2.2.2.2.2.2.1, g2, g3, g4, g5, g6, g7, g8, r5.2.2.2.2.2.2.2.2.1, g10, r5.2.2.2.2.2.2.2.2.2.1, r5.2.2.2.2.2.2.2.2.2.2]) (G' := [r5.2.2.2.2.2.2.1, r5.2.2.2.2.2.2.2.1, g2, g3, g4, g5, g6, g7, g8, r5.2.2.2.2.2.2.2.2.1, g10, r5.2.2.2.2.2.2.2.2.2.1, r5.2.2.2.2.2.2.2.2.2.2]) (ρ := [1, 15]) (φ := [8]) (ψ := [11]) [none, none, none, none, none, none, none, none, some 0, none, none, none, none, none, none, none, none, none, none, none] [none, none, none, none, none, none, none, none, none, none, none, some 0, none] zyw_View_countFigures zyw_X_sky zye_X_sky (by decide +kernel) (zt_View_countFigures hr14) ⟨⟨_, rfl, fun _ => rfl⟩, trivial⟩ ⟨rfl, trivial⟩ rfl rfl rfl rfl rfl rfl rfl) zd100_116 zxt103 rfl (by decide) (by decide) rfl ?_
        refine zv_addw hB zd100_119 ?_
        have hw := Option.some.inj h
        refine zv_wk hB (L' := [.inr 0, .inl x1, .inl x2, .inl x3, .inl r6]) (F' := [.inr 3, .inr 1000, .inr 1000, .inl r5.1, .inl r5.2.1, .inl r5.2.2.1, .inl f6, .inl f7, .inl r5.2.2.2.1, .inl f9, .inl f10, .inl f11, .inl f12, .inl f13, .inl r5.2.2.2.2.1, .inl f15, .inl r5.2.2.2.2.2.1, .inl f17, .inl f18, .inl f19]) ⟨fun _ => rfl, fun _ => rfl, fun _ => rfl, fun _ => rfl, fun _ => rfl, trivial⟩ ⟨fun _ => rfl, fun (h : zv_is (.inr 1000)) => (Nat.lt_irrefl 1000 h).elim, fun (h : zv_is (.inr 1000)) => (Nat.lt_irrefl 1000 h).elim, fun _ => rfl, fun _ => rfl, fun _ => rfl, fun _ => rfl, fun _ => rfl, fun _ => rfl, fun _ => rfl, fun _ => rfl, fun _ => rfl, fun _ => rfl, fun _ => rfl, fun _ => rfl, fun _ => rfl, fun _ => rfl, fun _ => rfl, fun _ => rfl, fun _ => rfl, trivial⟩ ?_
        subst hw
        exact hret _ _ _ _ _ zd100_120 (by trivial) ⟨rfl, rfl, rfl⟩
      replace hc12 : x3 ≠ 3 := hc12
      rw [if_neg hc12] at h
      refine ⟨fun hc15 => ⟨_, rfl, ?_⟩, fun hc15 => ?_⟩
      · replace hc15 : x3 = 4 := hc15
        rw [if_pos hc15] at h
        refine zv_ald hB zd100_121 rfl rfl rfl ?_
        refine zv_getr hB zd100_122 rfl ?_
        obtain ⟨r16, hr16, h⟩ := zi_bind h
        refine zv_cv hB (zv_emq (va2 := [.inr 1]) (F := [.inr 3, .inr 2, .inr 3, .inl r5.1, .inl r5.2.1, .inl r5.2.2.1, .inl f6, .inl f7, .inl r5.2.2.2.1, .inl f9, .inl f10, .inl f11, .inl f12, .inl f13, .inl r5.2.2.2.2.1, .inl f15, .inl r5.2.2.2.2.2.1, .inl f17, .inl f18, .inl f19]) (F' := [.inr 3, .inr 2, .inr 3, .inl r5.1, .inl r5.2.1, .inl r5.2.2.1, .inl f6, .inl f7, .inl r5.2.2.2.1, .inl f9, .inl f10, .inl f11, .inl f12, .inl f13, .inl r5.2.2.2.2.1, .inl f15, .inl r5.2.2.2.2.2.1, .inl f17, .inl f18, .inl f19]) (G := [r5.2.2.2.2.2.2.1, r5.2.2.2.2.2.2.2.1, g2, g3, g4, g5, g6, g7, g8, r5.2.2.2.2.2.2.2.2.1, g10, r5.2.2.2.2.2.2.2.2.2.1, r5.2.2.2.2.2.2.2.2.2.2]) (G' := [r5.2.2.2.2.2.2.1, r5.2.2.2.2.2.2.2.1, g2, g3, g4, g5, g6, g7, g8, r5.2.2.2.2.2.2.2.2.1, g10, r5.2.2.2.2.2.2.2.2.2.1, r5.2.2.2.2.2.2.2.2.2.2]) (ρ := [1, 15]) (φ := []) (ψ := [11]) [none, none, none, none, none, none, none, none, none, none, none, none, none, none, none, none, none, none, none, none] [none, none, none, none, none, none, none, none, none, none, none, some 0, none] zyw_View_countHolding zyw_X_sky zye_X_sky (by decide +kernel) (zt_View_countHolding hr16) trivial ⟨rfl, trivial⟩ rfl rfl rfl rfl rfl rfl rfl) zd100_125 zxt107 rfl (by decide) (by decide) rfl ?_
        have hw := Option.some.inj h
        refine zv_wk hB (L' := [.inr 0, .inl x1, .inl x2, .inl x3, .inl r6]) (F' := [.inr 3, .inr 1000, .inr 1000, .inl r5.1, .inl r5.2.1, .inl r5.2.2.1, .inl f6, .inl f7, .inl r5.2.2.2.1, .inl f9, .inl f10, .inl f11, .inl f12, .inl f13, .inl r5.2.2.2.2.1, .inl f15, .inl r5.2.2.2.2.2.1, .inl f17, .inl f18, .inl f19]) ⟨fun _ => rfl, fun _ => rfl, fun _ => rfl, fun _ => rfl, fun _ => rfl, trivial⟩ ⟨fun _ => rfl, fun (h : zv_is (.inr 1000)) => (Nat.lt_irrefl 1000 h).elim, fun (h : zv_is (.inr 1000)) => (Nat.lt_irrefl 1000 h).elim, fun _ => rfl, fun _ => rfl, fun _ => rfl, fun _ => rfl, fun _ => rfl, fun _ => rfl, fun _ => rfl, fun _ => rfl, fun _ => rfl, fun _ => rfl, fun _ => rfl, fun _ => rfl, fun _ => rfl, fun _ => rfl, fun _ => rfl, fun _ => rfl, fun _ => rfl, trivial⟩ ?_
        subst hw
        exact hret _ _ _ _ _ zd100_128 (by trivial) ⟨rfl, rfl, rfl⟩
      replace hc15 : x3 ≠ 4 := hc15
      rw [if_neg hc15] at h
      refine ⟨fun hc17 => ⟨_, rfl, ?_⟩, fun hc17 => ?_⟩
      · replace hc17 : x3 = 5 := hc17
        rw [if_pos hc17] at h
        refine zv_ald hB zd100_129 rfl rfl rfl ?_
        refine zv_getr hB zd100_130 rfl ?_
        obtain ⟨r18, hr18, h⟩ := zi_bind h
        refine zv_cv hB (zv_emq (va2 := [.inr 1]) (F := [.inr 3, .inr 2, .inr 3, .inl r5.1, .inl r5.2.1, .inl r5.2.2.1, .inl f6, .inl f7, .inl r5.2.2.2.1, .inl f9, .inl f10, .inl f11, .inl f12, .inl f13, .inl r5.2.2.2.2.1, .inl f15, .inl r5.2.2.2.2.2.1, .inl f17, .inl f18, .inl f19]) (F' := [.inr 3, .inr 2, .inr 3, .inl r5.1, .inl r5.2.1, .inl r5.2.2.1, .inl f6, .inl f7, .inl r5.2.2.2.1, .inl f9, .inl f10, .inl f11, .inl f12, .inl f13, .inl r5.2.2.2.2.1, .inl f15, .inl r5.2.2.2.2.2.1, .inl f17, .inl f18, .inl f19]) (G := [r5.2.2.2.2.2.2.1, r5.2.2.2.2.2.2.2.1, g2, g3, g4, g5, g6, g7, g8, r5.2.2.2.2.2.2.2.2.1, g10, r5.2.2.2.2.2.2.2.2.2.1, r5.2.2.2.2.2.2.2.2.2.2]) (G' := [r5.2.2.2.2.2.2.1, r5.2.2.2.2.2.2.2.1, g2, g3, g4, g5, g6, g7, g8, r5.2.2.2.2.2.2.2.2.1, g10, r5.2.2.2.2.2.2.2.2.2.1, r5.2.2.2.2.2.2.2.2.2.2]) (ρ := [1, 15]) (φ := [8]) (ψ := [11]) [none, none, none, none, none, none, none, none, some 0, none, none, none, none, none, none, none, none, none, none, none] [none, none, none, none, none, none, none, none, none, none, none, some 0, none] zyw_View_mostLegged zyw_X_sky zye_X_sky (by decide +kernel) (zt_View_mostLegged hr18) ⟨⟨_, rfl, fun _ => rfl⟩, trivial⟩ ⟨rfl, trivial⟩ rfl rfl rfl rfl rfl rfl rfl) zd100_133 zxt108 rfl (by decide) (by decide) rfl ?_
        have hw := Option.some.inj h
        refine zv_wk hB (L' := [.inr 0, .inl x1, .inl x2, .inl x3, .inl r6]) (F' := [.inr 3, .inr 1000, .inr 1000, .inl r5.1, .inl r5.2.1, .inl r5.2.2.1, .inl f6, .inl f7, .inl r5.2.2.2.1, .inl f9, .inl f10, .inl f11, .inl f12, .inl f13, .inl r5.2.2.2.2.1, .inl f15, .inl r5.2.2.2.2.2.1, .inl f17, .inl f18, .inl f19]) ⟨fun _ => rfl, fun _ => rfl, fun _ => rfl, fun _ => rfl, fun _ => rfl, trivial⟩ ⟨fun _ => rfl, fun (h : zv_is (.inr 1000)) => (Nat.lt_irrefl 1000 h).elim, fun (h : zv_is (.inr 1000)) => (Nat.lt_irrefl 1000 h).elim, fun _ => rfl, fun _ => rfl, fun _ => rfl, fun _ => rfl, fun _ => rfl, fun _ => rfl, fun _ => rfl, fun _ => rfl, fun _ => rfl, fun _ => rfl, fun _ => rfl, fun _ => rfl, fun _ => rfl, fun _ => rfl, fun _ => rfl, fun _ => rfl, fun _ => rfl, trivial⟩ ?_
        subst hw
        exact hret _ _ _ _ _ zd100_136 (by trivial) ⟨rfl, rfl, rfl⟩
      replace hc17 : x3 ≠ 5 := hc17
      rw [if_neg hc17] at h
      refine ⟨_, rfl, ?_⟩
      refine zv_ald hB zd100_137 rfl rfl rfl ?_
      refine zv_getr hB zd100_138 rfl ?_
      refine zv_ald hB zd100_141 rfl rfl rfl ?_
      refine zv_getr hB zd100_142 rfl ?_
      obtain ⟨r19, hr19, h⟩ := zi_bind h
      refine zv_cv hB (zv_emq (va2 := [.inr 1]) (F := [.inr 3, .inr 2, .inr 3, .inl r5.1, .inl r5.2.1, .inl r5.2.2.1, .inl f6, .inl f7, .inl r5.2.2.2.1, .inl f9, .inl f10, .inl f11, .inl f12, .inl f13, .inl r5.2.2.2.2.1, .inl f15, .inl r5.2.2.2.2.2.1, .inl f17, .inl f18, .inl f19]) (F' := [.inr 3, .inr 2, .inr 3, .inl r5.1, .inl r5.2.1, .inl r5.2.2.1, .inl f6, .inl f7, .inl r5.2.2.2.1, .inl f9, .inl f10, .inl f11, .inl f12, .inl f13, .inl r5.2.2.2.2.1, .inl f15, .inl r5.2.2.2.2.2.1, .inl f17, .inl f18, .inl f19]) (G := [r5.2.2.2.2.2.2.1, r5.2.2.2.2.2.2.2.1, g2, g3, g4, g5, g6, g7, g8, r5.2.2.2.2.2.2.2.2.1, g10, r5.2.2.2.2.2.2.2.2.2.1, r5.2.2.2.2.2.2.2.2.2.2]) (G' := [r5.2.2.2.2.2.2.1, r5.2.2.2.2.2.2.2.1, g2, g3, g4, g5, g6, g7, g8, r5.2.2.2.2.2.2.2.2.1, g10, r5.2.2.2.2.2.2.2.2.2.1, r5.2.2.2.2.2.2.2.2.2.2]) (ρ := [1, 15]) (φ := [8]) (ψ := [11]) [none, none, none, none, none, none, none, none, some 0, none, none, none, none, none, none, none, none, none, none, none] [none, none, none, none, none, none, none, none, none, none, none, some 0, none] zyw_View_mostLegged zyw_X_sky zye_X_sky (by decide +kernel) (zt_View_mostLegged hr19) ⟨⟨_, rfl, fun _ => rfl⟩, trivial⟩ ⟨rfl, trivial⟩ rfl rfl rfl rfl rfl rfl rfl) zd100_145 zxt108 rfl (by decide) (by decide) rfl ?_
      obtain ⟨r20, hr20, h⟩ := zi_bind h
      refine zv_cv hB (zv_emq (va2 := [.inr 1, .inl r19]) (F := [.inr 3, .inr 2, .inr 3, .inl r5.1, .inl r5.2.1, .inl r5.2.2.1, .inl f6, .inl f7, .inl r5.2.2.2.1, .inl f9, .inl f10, .inl f11, .inl f12, .inl f13, .inl r5.2.2.2.2.1, .inl f15, .inl r5.2.2.2.2.2.1, .inl f17, .inl f18, .inl f19]) (F' := [.inr 3, .inr 2, .inr 3, .inl r5.1, .inl r5.2.1, .inl r5.2.2.1, .inl f6, .inl f7, .inl r5.2.2.2.1, .inl f9, .inl f10, .inl f11, .inl f12, .inl f13, .inl r5.2.2.2.2.1, .inl f15, .inl r5.2.2.2.2.2.1, .inl f17, .inl f18, .inl f19]) (G := [r5.2.2.2.2.2.2.1, r5.2.2.2.2.2.2.2.1, g2, g3, g4, g5, g6, g7, g8, r5.2.2.2.2.2.2.2.2.1, g10, r5.2.2.2.2.2.2.2.2.2.1, r5.2.2.2.2.2.2.2.2.2.2]) (G' := [r5.2.2.2.2.2.2.1, r5.2.2.2.2.2.2.2.1, g2, g3, g4, g5, g6, g7, g8, r5.2.2.2.2.2.2.2.2.1, g10, r5.2.2.2.2.2.2.2.2.2.1, r5.2.2.2.2.2.2.2.2.2.2]) (ρ := [1, 15]) (φ := []) (ψ := [11]) [none, none, none, none, none, none, none, none, none, none, none, none, none, none, none, none, none, none, none, none] [none, none, none, none, none, none, none, none, none, none, none, some 0, none] zyw_View_legsOf zyw_X_sky zye_X_sky (by decide +kernel) (zt_View_legsOf hr20) trivial ⟨rfl, trivial⟩ rfl rfl rfl rfl rfl rfl rfl) zd100_148 zxt109 rfl (by decide) (by decide) rfl ?_
      have hw := Option.some.inj h
      refine zv_wk hB (L' := [.inr 0, .inl x1, .inl x2, .inl x3, .inl r6]) (F' := [.inr 3, .inr 1000, .inr 1000, .inl r5.1, .inl r5.2.1, .inl r5.2.2.1, .inl f6, .inl f7, .inl r5.2.2.2.1, .inl f9, .inl f10, .inl f11, .inl f12, .inl f13, .inl r5.2.2.2.2.1, .inl f15, .inl r5.2.2.2.2.2.1, .inl f17, .inl f18, .inl f19]) ⟨fun _ => rfl, fun _ => rfl, fun _ => rfl, fun _ => rfl, fun _ => rfl, trivial⟩ ⟨fun _ => rfl, fun (h : zv_is (.inr 1000)) => (Nat.lt_irrefl 1000 h).elim, fun (h : zv_is (.inr 1000)) => (Nat.lt_irrefl 1000 h).elim, fun _ => rfl, fun _ => rfl, fun _ => rfl, fun _ => rfl, fun _ => rfl, fun _ => rfl, fun _ => rfl, fun _ => rfl, fun _ => rfl, fun _ => rfl, fun _ => rfl, fun _ => rfl, fun _ => rfl, fun _ => rfl, fun _ => rfl, fun _ => rfl, fun _ => rfl, trivial⟩ ?_
      subst hw
      exact hret _ _ _ _ _ zd100_151 (by trivial) ⟨rfl, rfl, rfl⟩
    · rw [if_pos hc4] at h
      refine zv_con hB zd100_18 rfl ?_
      have hw := Option.some.inj h
      subst hw
      exact hret _ _ _ _ _ zd100_19 (by trivial) ⟨rfl, rfl, rfl⟩
end
section
/-! Methods as functions, and that they do what these do. -/
/-! X_figure (III)I -/
-- names: 0 StarTales('arg', 0), 1 Sky(0, 0, 0), 2 View(0, 0, 12), 3 Law(0, 0, 7), 4 (0, 24)(2, 7, 8), 5 (0, 13)(3, 4, 12), 6 (0, 24)(1, 1, 1), 7 (0, 24)(1, 1, 2), 8 (0, 24)(1, 1, 3), 9 (0, 14)(3, 4, 3), 10 (0, 14)(3, 4, 5), 11 (0, 14)(3, 4, 6), 12 (0, 200)(3, 4, 0), 13 (0, 40)(3, 4, 13), 14 (0, 200)(3, 4, 1), 15 (0, 24)(2, 7, 5), 16 (0, 24)(2, 7, 9)
-- fields: f0 = 1.told_, f1 = 0.ruling_, f2 = 2.sky_, f3 = 2.law_, f4 = 2.starsAsked_, f5 = 2.x_, f6 = 2.y_, f7 = 1.hour_, f8 = 1.night_, f9 = 2.shown_, f10 = 1.sightColumns_, f11 = 1.sightRows_, f12 = 1.clouds_, f13 = 3.tellsSeen_, f14 = 2.starsHold_, f15 = 3.clauses_, f16 = 3.answer_, f17 = 3.seenByPlace_, f18 = 3.tellsLines_, f19 = 3.linesByPlace_; arrays: g0 = 4, g1 = 5, g2 = 6, g3 = 7, g4 = 8, g5 = 9, g6 = 10, g7 = 11, g8 = 12, g9 = 13, g10 = 14, g11 = 15, g12 = 16; out: [('ret', None), ('f', 4), ('f', 5), ('f', 6), ('f', 9), ('f', 14), ('f', 16), ('g', 0), ('g', 1), ('g', 9), ('g', 11), ('g', 12)]
abbrev zy_X_figure : zNL := (17, [(0, 0), (1, 1), (2, 7), (3, 4)], [(1, 1, 0, 0), (0, 0, 7, 1), (2, 7, 0, 2), (2, 7, 1, 3), (2, 7, 6, 4), (2, 7, 2, 5), (2, 7, 3, 6), (1, 1, 6, 7), (1, 1, 7, 8), (2, 7, 4, 9), (1, 1, 9, 10), (1, 1, 10, 11), (1, 1, 8, 12), (3, 4, 8, 13), (2, 7, 7, 14), (3, 4, 7, 15), (3, 4, 14, 16), (3, 4, 10, 17), (3, 4, 9, 18), (3, 4, 11, 19)], [(0, 0, 0, 1), (0, 0, 12, 2), (2, 7, 8, 4), (3, 4, 12, 5), (1, 1, 1, 6), (1, 1, 2, 7), (1, 1, 3, 8), (3, 4, 3, 9), (3, 4, 5, 10), (3, 4, 6, 11), (3, 4, 0, 12), (3, 4, 13, 13), (3, 4, 1, 14), (2, 7, 5, 15), (2, 7, 9, 16)], [(4, 0, 24, 0), (5, 0, 13, 1), (6, 0, 24, 2), (7, 0, 24, 3), (8, 0, 24, 4), (9, 0, 14, 5), (10, 0, 14, 6), (11, 0, 14, 7), (12, 0, 200, 8), (13, 0, 40, 9), (14, 0, 200, 10), (15, 0, 24, 11), (16, 0, 24, 12)])
theorem zyw_X_figure : zv_wf zy_X_figure = true := by decide +kernel
theorem zye_X_figure : zv_ek2 zy_X_figure = true := by decide +kernel
def zf_X_figure (x1 : Int) (x2 : Int) (x3 : Int) (f0 : Int) (f4 : Int) (f5 : Int) (f6 : Int) (f7 : Int) (f8 : Int) (f9 : Int) (f10 : Int) (f11 : Int) (f12 : Int) (f13 : Int) (f14 : Int) (f15 : Int) (f16 : Int) (f17 : Int) (f18 : Int) (f19 : Int) (g0 : (Int → Int)) (g1 : (Int → Int)) (g2 : (Int → Int)) (g3 : (Int → Int)) (g4 : (Int → Int)) (g5 : (Int → Int)) (g6 : (Int → Int)) (g7 : (Int → Int)) (g8 : (Int → Int)) (g9 : (Int → Int)) (g10 : (Int → Int)) (g11 : (Int → Int)) (g12 : (Int → Int)) : Option (Int × Int × Int × Int × Int × Int × Int × (Int → Int) × (Int → Int) × (Int → Int) × (Int → Int) × (Int → Int)) := (zf_X_isPlace x1 x2).bind fun r1 => (if r1 = 0 then (some ((-1), f4, f5, f6, f9, f14, f16, g0, g1, g9, g11, g12)) else ((zf_Sky_hasStar x3 f0).bind fun r3 => (if r3 = 0 then (some ((-1), f4, f5, f6, f9, f14, f16, g0, g1, g9, g11, g12)) else ((zf_X_lookAndDraw x1 x2 f4 f5 f6 f7 f8 f9 f0 f10 f11 f12 f13 f14 f15 f16 f17 f18 f19 g0 g1 g2 g3 g4 g5 g6 g7 g8 g9 g10 g11 g12).bind fun r5 => (if (zi_and (zi_shr r5.2.2.2.1 x3) 1) = 0 then (some ((-2), r5.1, r5.2.1, r5.2.2.1, r5.2.2.2.1, r5.2.2.2.2.1, r5.2.2.2.2.2.1, r5.2.2.2.2.2.2.1, r5.2.2.2.2.2.2.2.1, r5.2.2.2.2.2.2.2.2.1, r5.2.2.2.2.2.2.2.2.2.1, r5.2.2.2.2.2.2.2.2.2.2)) else ((zf_View_reach x3 (-1) (-1) r5.2.2.2.2.2.2.2.2.2.1).bind fun r7 => (some (r7, r5.1, r5.2.1, r5.2.2.1, r5.2.2.2.1, r5.2.2.2.2.1, r5.2.2.2.2.2.1, r5.2.2.2.2.2.2.1, r5.2.2.2.2.2.2.2.1, r5.2.2.2.2.2.2.2.2.1, r5.2.2.2.2.2.2.2.2.2.1, r5.2.2.2.2.2.2.2.2.2.2))))))))
theorem zd110_0 : decode zxm110.2.1 0 = .ok (.iload_n 1, 1) := by decide +kernel
theorem zd110_1 : decode zxm110.2.1 1 = .ok (.iload_n 2, 1) := by decide +kernel
theorem zd110_2 : decode zxm110.2.1 2 = .ok (.invokestatic 130, 3) := by decide +kernel
theorem zd110_5 : decode zxm110.2.1 5 = .ok (.ifCond .eq 14, 3) := by decide +kernel
theorem zd110_8 : decode zxm110.2.1 8 = .ok (.aload_n 0, 1) := by decide +kernel
theorem zd110_9 : decode zxm110.2.1 9 = .ok (.getfield 10, 3) := by decide +kernel
theorem zd110_12 : decode zxm110.2.1 12 = .ok (.iload_n 3, 1) := by decide +kernel
theorem zd110_13 : decode zxm110.2.1 13 = .ok (.invokevirtual 153, 3) := by decide +kernel
theorem zd110_16 : decode zxm110.2.1 16 = .ok (.ifCond .ne 5, 3) := by decide +kernel
theorem zd110_19 : decode zxm110.2.1 19 = .ok (.iconst (-1), 1) := by decide +kernel
theorem zd110_20 : decode zxm110.2.1 20 = .ok (.ireturn, 1) := by decide +kernel
theorem zd110_21 : decode zxm110.2.1 21 = .ok (.aload_n 0, 1) := by decide +kernel
theorem zd110_22 : decode zxm110.2.1 22 = .ok (.aload_n 0, 1) := by decide +kernel
theorem zd110_23 : decode zxm110.2.1 23 = .ok (.getfield 81, 3) := by decide +kernel
theorem zd110_26 : decode zxm110.2.1 26 = .ok (.iload_n 1, 1) := by decide +kernel
theorem zd110_27 : decode zxm110.2.1 27 = .ok (.iload_n 2, 1) := by decide +kernel
theorem zd110_28 : decode zxm110.2.1 28 = .ok (.invokevirtual 221, 3) := by decide +kernel
theorem zd110_31 : decode zxm110.2.1 31 = .ok (.aload_n 0, 1) := by decide +kernel
theorem zd110_32 : decode zxm110.2.1 32 = .ok (.getfield 81, 3) := by decide +kernel
theorem zd110_35 : decode zxm110.2.1 35 = .ok (.getfield 218, 3) := by decide +kernel
theorem zd110_38 : decode zxm110.2.1 38 = .ok (.iload_n 3, 1) := by decide +kernel
theorem zd110_39 : decode zxm110.2.1 39 = .ok (.ishr, 1) := by decide +kernel
theorem zd110_40 : decode zxm110.2.1 40 = .ok (.iconst 1, 1) := by decide +kernel
theorem zd110_41 : decode zxm110.2.1 41 = .ok (.iand, 1) := by decide +kernel
theorem zd110_42 : decode zxm110.2.1 42 = .ok (.ifCond .ne 8, 3) := by decide +kernel
theorem zd110_45 : decode zxm110.2.1 45 = .ok (.bipush (-2), 2) := by decide +kernel
theorem zd110_47 : decode zxm110.2.1 47 = .ok (.goto 13, 3) := by decide +kernel
theorem zd110_50 : decode zxm110.2.1 50 = .ok (.aload_n 0, 1) := by decide +kernel
theorem zd110_51 : decode zxm110.2.1 51 = .ok (.getfield 81, 3) := by decide +kernel
theorem zd110_54 : decode zxm110.2.1 54 = .ok (.iload_n 3, 1) := by decide +kernel
theorem zd110_55 : decode zxm110.2.1 55 = .ok (.iconst (-1), 1) := by decide +kernel
theorem zd110_56 : decode zxm110.2.1 56 = .ok (.iconst (-1), 1) := by decide +kernel
theorem zd110_57 : decode zxm110.2.1 57 = .ok (.invokevirtual 249, 3) := by decide +kernel
theorem zd110_60 : decode zxm110.2.1 60 = .ok (.ireturn, 1) := by decide +kernel
theorem zt_X_figure {x1 : Int} {x2 : Int} {x3 : Int} {f0 : Int} {f4 : Int} {f5 : Int} {f6 : Int} {f7 : Int} {f8 : Int} {f9 : Int} {f10 : Int} {f11 : Int} {f12 : Int} {f13 : Int} {f14 : Int} {f15 : Int} {f16 : Int} {f17 : Int} {f18 : Int} {f19 : Int} {g0 : (Int → Int)} {g1 : (Int → Int)} {g2 : (Int → Int)} {g3 : (Int → Int)} {g4 : (Int → Int)} {g5 : (Int → Int)} {g6 : (Int → Int)} {g7 : (Int → Int)} {g8 : (Int → Int)} {g9 : (Int → Int)} {g10 : (Int → Int)} {g11 : (Int → Int)} {g12 : (Int → Int)} {o : Int × Int × Int × Int × Int × Int × Int × (Int → Int) × (Int → Int) × (Int → Int) × (Int → Int) × (Int → Int)} (h : zf_X_figure x1 x2 x3 f0 f4 f5 f6 f7 f8 f9 f10 f11 f12 f13 f14 f15 f16 f17 f18 f19 g0 g1 g2 g3 g4 g5 g6 g7 g8 g9 g10 g11 g12 = some o) : zv_Fn z_TB z_cl z_KX zy_X_figure zxm110 (6, 360) [.inr 0, .inl x1, .inl x2, .inl x3] [.inl f0, .inr 3, .inr 1000, .inr 1000, .inl f4, .inl f5, .inl f6, .inl f7, .inl f8, .inl f9, .inl f10, .inl f11, .inl f12, .inl f13, .inl f14, .inl f15, .inl f16, .inl f17, .inl f18, .inl f19] [g0, g1, g2, g3, g4, g5, g6, g7, g8, g9, g10, g11, g12] (some o.1) [.inl f0, .inr 3, .inr 1000, .inr 1000, .inl o.2.1, .inl o.2.2.1, .inl o.2.2.2.1, .inl f7, .inl f8, .inl o.2.2.2.2.1, .inl f10, .inl f11, .inl f12, .inl f13, .inl o.2.2.2.2.2.1, .inl f15, .inl o.2.2.2.2.2.2.1, .inl f17, .inl f18, .inl f19] [o.2.2.2.2.2.2.2.1, o.2.2.2.2.2.2.2.2.1, g2, g3, g4, g5, g6, g7, g8, o.2.2.2.2.2.2.2.2.2.1, g10, o.2.2.2.2.2.2.2.2.2.2.1, o.2.2.2.2.2.2.2.2.2.2.2] := zv_meth (K := (z_KF0, z_KC0, z_KL0, z_KT0, [], [], [], none)) (FT := z_FT) (MT := z_MT) (n := 4) zxp110 (z_ks0 _ (fun _ h => List.mem_cons_of_mem _ h) _ _ _ _ (fun j r h _ => by cases h)) (fun _ _ => zs_KX_p) zyw_X_figure (fun va F G h => by obtain ⟨rfl, _⟩ := h; rfl) (fun va F G h => by obtain ⟨rfl, _⟩ := h; rfl) rfl fun good va F G hB hret hvret hP => by
  obtain ⟨rfl, rfl, rfl⟩ := hP
  unfold zf_X_figure at h
  refine zv_ild hB zd110_0 rfl rfl ?_
  refine zv_ild hB zd110_1 rfl rfl ?_
  obtain ⟨r1, hr1, h⟩ := zi_bind h
  refine zv_cs hB (zv_emq (va2 := [.inl x1, .inl x2]) (F := [.inl f0, .inr 3, .inr 1000, .inr 1000, .inl f4, .inl f5, .inl f6, .inl f7, .inl f8, .inl f9, .inl f10, .inl f11, .inl f12, .inl f13, .inl f14, .inl f15, .inl f16, .inl f17, .inl f18, .inl f19]) (F' := [.inl f0, .inr 3, .inr 1000, .inr 1000, .inl f4, .inl f5, .inl f6, .inl f7, .inl f8, .inl f9, .inl f10, .inl f11, .inl f12, .inl f13, .inl f14, .inl f15, .inl f16, .inl f17, .inl f18, .inl f19]) (G := [g0, g1, g2, g3, g4, g5, g6, g7, g8, g9, g10, g11, g12]) (G' := [g0, g1, g2, g3, g4, g5, g6, g7, g8, g9, g10, g11, g12]) (ρ := []) (φ := []) (ψ := []) [none, none, none, none, none, none, none, none, none, none, none, none, none, none, none, none, none, none, none, none] [none, none, none, none, none, none, none, none, none, none, none, none, none] zyw_X_isPlace zyw_X_figure zye_X_figure (by decide +kernel) (zt_X_isPlace hr1) trivial trivial rfl rfl rfl rfl rfl rfl rfl) zd110_2 zxt16 rfl (by decide) (by decide) rfl ?_
  refine zv_zeq hB zd110_5 rfl (fun hc2 => ?_) (fun hc2 => ?_)
  · rw [if_pos hc2] at h
    refine zv_con hB zd110_19 rfl ?_
    have hw := Option.some.inj h
    subst hw
    exact hret _ _ _ _ _ zd110_20 (by trivial) ⟨rfl, rfl, rfl⟩
  · rw [if_neg hc2] at h
    refine zv_ald hB zd110_8 rfl rfl rfl ?_
    refine zv_getr hB zd110_9 rfl ?_
    refine zv_ild hB zd110_12 rfl rfl ?_
    obtain ⟨r3, hr3, h⟩ := zi_bind h
    refine zv_cv hB (zv_emq (va2 := [.inr 1, .inl x3]) (F := [.inl f0, .inr 3, .inr 1000, .inr 1000, .inl f4, .inl f5, .inl f6, .inl f7, .inl f8, .inl f9, .inl f10, .inl f11, .inl f12, .inl f13, .inl f14, .inl f15, .inl f16, .inl f17, .inl f18, .inl f19]) (F' := [.inl f0, .inr 3, .inr 1000, .inr 1000, .inl f4, .inl f5, .inl f6, .inl f7, .inl f8, .inl f9, .inl f10, .inl f11, .inl f12, .inl f13, .inl f14, .inl f15, .inl f16, .inl f17, .inl f18, .inl f19]) (G := [g0, g1, g2, g3, g4, g5, g6, g7, g8, g9, g10, g11, g12]) (G' := [g0, g1, g2, g3, g4, g5, g6, g7, g8, g9, g10, g11, g12]) (ρ := [1]) (φ := [0]) (ψ := []) [some 0, none, none, none, none, none, none, none, none, none, none, none, none, none, none, none, none, none, none, none] [none, none, none, none, none, none, none, none, none, none, none, none, none] zyw_Sky_hasStar zyw_X_figure zye_X_figure (by decide +kernel) (zt_Sky_hasStar hr3) ⟨⟨_, rfl, fun _ => rfl⟩, trivial⟩ trivial rfl rfl rfl rfl rfl rfl rfl) zd110_13 zxt18 rfl (by decide) (by decide) rfl ?_
    refine zv_zne hB zd110_16 rfl (fun hc4 => ?_) (fun hc4 => ?_)
    · rw [if_neg hc4] at h
      refine zv_ald hB zd110_21 rfl rfl rfl ?_
      refine zv_ald hB zd110_22 rfl rfl rfl ?_
      refine zv_getr hB zd110_23 rfl ?_
      refine zv_ild hB zd110_26 rfl rfl ?_
      refine zv_ild hB zd110_27 rfl rfl ?_
      obtain ⟨r5, hr5, h⟩ := zi_bind h
      refine zv_cv hB (zv_emq (va2 := [.inr 0, .inr 2, .inl x1, .inl x2]) (F := [.inl f0, .inr 3, .inr 1000, .inr 1000, .inl f4, .inl f5, .inl f6, .inl f7, .inl f8, .inl f9, .inl f10, .inl f11, .inl f12, .inl f13, .inl f14, .inl f15, .inl f16, .inl f17, .inl f18, .inl f19]) (F' := [.inl f0, .inr 3, .inr 1, .inr 3, .inl r5.1, .inl r5.2.1, .inl r5.2.2.1, .inl f7, .inl f8, .inl r5.2.2.2.1, .inl f10, .inl f11, .inl f12, .inl f13, .inl r5.2.2.2.2.1, .inl f15, .inl r5.2.2.2.2.2.1, .inl f17, .inl f18, .inl f19]) (G := [g0, g1, g2, g3, g4, g5, g6, g7, g8, g9, g10, g11, g12]) (G' := [r5.2.2.2.2.2.2.1, r5.2.2.2.2.2.2.2.1, g2, g3, g4, g5, g6, g7, g8, r5.2.2.2.2.2.2.2.2.1, g10, r5.2.2.2.2.2.2.2.2.2.1, r5.2.2.2.2.2.2.2.2.2.2]) (ρ := [0, 2, 1, 3, 4, 5, 6, 7, 8, 9, 10, 11, 12, 13, 14, 15, 16]) (φ := [1, 2, 3, 4, 5, 6, 7, 8, 9, 0, 10, 11, 12, 13, 14, 15, 16, 17, 18, 19]) (ψ := [0, 1, 2, 3, 4, 5, 6, 7, 8, 9, 10, 11, 12]) [some 9, some 0, some 1, some 2, some 3, some 4, some 5, some 6, some 7, some 8, some 10, some 11, some 12, some 13, some 14, some 15, some 16, some 17, some 18, some 19] [some 0, some 1, some 2, some 3, some 4, some 5, some 6, some 7, some 8, some 9, some 10, some 11, some 12] zyw_X_lookAndDraw zyw_X_figure zye_X_figure (by decide +kernel) (zt_X_lookAndDraw hr5) ⟨⟨_, rfl, fun _ => rfl⟩, ⟨_, rfl, fun (h : zv_is (.inr 1000)) => (Nat.lt_irrefl 1000 h).elim⟩, ⟨_, rfl, fun (h : zv_is (.inr 1000)) => (Nat.lt_irrefl 1000 h).elim⟩, ⟨_, rfl, fun _ => rfl⟩, ⟨_, rfl, fun _ => rfl⟩, ⟨_, rfl, fun _ => rfl⟩, ⟨_, rfl, fun _ => rfl⟩, ⟨_, rfl, fun _ => rfl⟩, ⟨_, rfl, fun _ => rfl⟩, ⟨_, rfl, fun _ => rfl⟩, ⟨_, rfl, fun _ => rfl⟩, ⟨_, rfl, fun _ => rfl⟩, ⟨_, rfl, fun _ => rfl⟩, ⟨_, rfl, fun _ => rfl⟩, ⟨_, rfl, fun _ => rfl⟩, ⟨_, rfl, fun _ => rfl⟩, ⟨_, rfl, fun _ => rfl⟩, ⟨_, rfl, fun _ => rfl⟩, ⟨_, rfl, fun _ => rfl⟩, ⟨_, rfl, fun _ => rfl⟩, trivial⟩ ⟨rfl, rfl, rfl, rfl, rfl, rfl, rfl, rfl, rfl, rfl, rfl, rfl, rfl, trivial⟩ rfl rfl rfl rfl rfl rfl rfl) zd110_28 zxt96 rfl (by decide) (by decide) rfl ?_
      refine zv_ald hB zd110_31 rfl rfl rfl ?_
      refine zv_getr hB zd110_32 rfl ?_
      refine zv_getf hB zd110_35 rfl rfl (fun _ _ => ?_)
      refine zv_ild hB zd110_38 rfl rfl ?_
      refine zv_shrw hB zd110_39 ?_
      refine zv_con hB zd110_40 rfl ?_
      refine zv_andw hB zd110_41 ?_
      refine zv_zne hB zd110_42 rfl (fun hc6 => ?_) (fun hc6 => ?_)
      · rw [if_neg hc6] at h
        refine zv_ald hB zd110_50 rfl rfl rfl ?_
        refine zv_getr hB zd110_51 rfl ?_
        refine zv_ild hB zd110_54 rfl rfl ?_
        refine zv_con hB zd110_55 rfl ?_
        refine zv_con hB zd110_56 rfl ?_
        obtain ⟨r7, hr7, h⟩ := zi_bind h
        refine zv_cv hB (zv_emq (va2 := [.inr 2, .inl x3, .inl (-1), .inl (-1)]) (F := [.inl f0, .inr 3, .inr 1, .inr 3, .inl r5.1, .inl r5.2.1, .inl r5.2.2.1, .inl f7, .inl f8, .inl r5.2.2.2.1, .inl f10, .inl f11, .inl f12, .inl f13, .inl r5.2.2.2.2.1, .inl f15, .inl r5.2.2.2.2.2.1, .inl f17, .inl f18, .inl f19]) (F' := [.inl f0, .inr 3, .inr 1, .inr 3, .inl r5.1, .inl r5.2.1, .inl r5.2.2.1, .inl f7, .inl f8, .inl r5.2.2.2.1, .inl f10, .inl f11, .inl f12, .inl f13, .inl r5.2.2.2.2.1, .inl f15, .inl r5.2.2.2.2.2.1, .inl f17, .inl f18, .inl f19]) (G := [r5.2.2.2.2.2.2.1, r5.2.2.2.2.2.2.2.1, g2, g3, g4, g5, g6, g7, g8, r5.2.2.2.2.2.2.2.2.1, g10, r5.2.2.2.2.2.2.2.2.2.1, r5.2.2.2.2.2.2.2.2.2.2]) (G' := [r5.2.2.2.2.2.2.1, r5.2.2.2.2.2.2.2.1, g2, g3, g4, g5, g6, g7, g8, r5.2.2.2.2.2.2.2.2.1, g10, r5.2.2.2.2.2.2.2.2.2.1, r5.2.2.2.2.2.2.2.2.2.2]) (ρ := [2, 15]) (φ := []) (ψ := [11]) [none, none, none, none, none, none, none, none, none, none, none, none, none, none, none, none, none, none, none, none] [none, none, none, none, none, none, none, none, none, none, none, some 0, none] zyw_View_reach zyw_X_figure zye_X_figure (by decide +kernel) (zt_View_reach hr7) trivial ⟨rfl, trivial⟩ rfl rfl rfl rfl rfl rfl rfl) zd110_57 zxt104 rfl (by decide) (by decide) rfl ?_
        have hw := Option.some.inj h
        refine zv_wk hB (L' := [.inr 0, .inl x1, .inl x2, .inl x3]) (F' := [.inl f0, .inr 3, .inr 1000, .inr 1000, .inl r5.1, .inl r5.2.1, .inl r5.2.2.1, .inl f7, .inl f8, .inl r5.2.2.2.1, .inl f10, .inl f11, .inl f12, .inl f13, .inl r5.2.2.2.2.1, .inl f15, .inl r5.2.2.2.2.2.1, .inl f17, .inl f18, .inl f19]) ⟨fun _ => rfl, fun _ => rfl, fun _ => rfl, fun _ => rfl, trivial⟩ ⟨fun _ => rfl, fun _ => rfl, fun (h : zv_is (.inr 1000)) => (Nat.lt_irrefl 1000 h).elim, fun (h : zv_is (.inr 1000)) => (Nat.lt_irrefl 1000 h).elim, fun _ => rfl, fun _ => rfl, fun _ => rfl, fun _ => rfl, fun _ => rfl, fun _ => rfl, fun _ => rfl, fun _ => rfl, fun _ => rfl, fun _ => rfl, fun _ => rfl, fun _ => rfl, fun _ => rfl, fun _ => rfl, fun _ => rfl, fun _ => rfl, trivial⟩ ?_
        subst hw
        exact hret _ _ _ _ _ zd110_60 (by trivial) ⟨rfl, rfl, rfl⟩
      · rw [if_pos hc6] at h
        refine zv_con hB zd110_45 rfl ?_
        refine zv_goto hB zd110_47 rfl ?_
        have hw := Option.some.inj h
        refine zv_wk hB (L' := [.inr 0, .inl x1, .inl x2, .inl x3]) (F' := [.inl f0, .inr 3, .inr 1000, .inr 1000, .inl r5.1, .inl r5.2.1, .inl r5.2.2.1, .inl f7, .inl f8, .inl r5.2.2.2.1, .inl f10, .inl f11, .inl f12, .inl f13, .inl r5.2.2.2.2.1, .inl f15, .inl r5.2.2.2.2.2.1, .inl f17, .inl f18, .inl f19]) ⟨fun _ => rfl, fun _ => rfl, fun _ => rfl, fun _ => rfl, trivial⟩ ⟨fun _ => rfl, fun _ => rfl, fun (h : zv_is (.inr 1000)) => (Nat.lt_irrefl 1000 h).elim, fun (h : zv_is (.inr 1000)) => (Nat.lt_irrefl 1000 h).elim, fun _ => rfl, fun _ => rfl, fun _ => rfl, fun _ => rfl, fun _ => rfl, fun _ => rfl, fun _ => rfl, fun _ => rfl, fun _ => rfl, fun _ => rfl, fun _ => rfl, fun _ => rfl, fun _ => rfl, fun _ => rfl, fun _ => rfl, fun _ => rfl, trivial⟩ ?_
        subst hw
        exact hret _ _ _ _ _ zd110_60 (by trivial) ⟨rfl, rfl, rfl⟩
    · rw [if_pos hc4] at h
      refine zv_con hB zd110_19 rfl ?_
      have hw := Option.some.inj h
      subst hw
      exact hret _ _ _ _ _ zd110_20 (by trivial) ⟨rfl, rfl, rfl⟩
/-! Matcher_withLegs (II)I -/
-- names: 0 Matcher('arg', 0), 1 (0, 24)(0, 8, 4)
-- fields: f0 = 0.joined_; arrays: g0 = 1; out: [('ret', None)]
abbrev zy_Matcher_withLegs : zNL := (2, [(0, 8)], [(0, 8, 4, 0)], [], [(1, 0, 24, 0)])
theorem zyw_Matcher_withLegs : zv_wf zy_Matcher_withLegs = true := by decide +kernel
theorem zye_Matcher_withLegs : zv_ek2 zy_Matcher_withLegs = true := by decide +kernel
def zf_Matcher_withLegs_l0_b (x1 : Int) (x2 : Int) (g0 : (Int → Int)) (rec : Int → Int → Option (Int)) (x3 : Int) (x4 : Int) : Option (Int) := if x4 < 24 then (if (zi_and (zi_shr x1 x4) 1) = 0 then (rec x3 (zi_w (x4 + 1))) else (cond (zi_ix x4 24) ((zf_Integer_bitCount (zi_and (g0 x4) x1)).bind fun r4 => (if r4 < x2 then (rec x3 (zi_w (x4 + 1))) else (rec (zi_or x3 (zi_shl 1 x4)) (zi_w (x4 + 1))))) none)) else (some x3)
def zf_Matcher_withLegs_l0 (x1 : Int) (x2 : Int) (g0 : (Int → Int)) : Nat → Int → Int → Option (Int)
  | 0, _, _ => none
  | n + 1, x3, x4 => zf_Matcher_withLegs_l0_b x1 x2 g0 (zf_Matcher_withLegs_l0 x1 x2 g0 n) x3 x4
def zf_Matcher_withLegs (x1 : Int) (x2 : Int) (g0 : (Int → Int)) : Option (Int) := (zf_Matcher_withLegs_l0 x1 x2 g0 zi_fu 0 0).bind fun q6 => (some q6)
theorem zd114_0 : decode zxm114.2.1 0 = .ok (.iconst 0, 1) := by decide +kernel
theorem zd114_1 : decode zxm114.2.1 1 = .ok (.istore_n 3, 1) := by decide +kernel
theorem zd114_2 : decode zxm114.2.1 2 = .ok (.iconst 0, 1) := by decide +kernel
theorem zd114_3 : decode zxm114.2.1 3 = .ok (.istore 4, 2) := by decide +kernel
theorem zd114_5 : decode zxm114.2.1 5 = .ok (.iload 4, 2) := by decide +kernel
theorem zd114_7 : decode zxm114.2.1 7 = .ok (.bipush 24, 2) := by decide +kernel
theorem zd114_9 : decode zxm114.2.1 9 = .ok (.if_icmp .ge 41, 3) := by decide +kernel
theorem zd114_12 : decode zxm114.2.1 12 = .ok (.iload_n 1, 1) := by decide +kernel
theorem zd114_13 : decode zxm114.2.1 13 = .ok (.iload 4, 2) := by decide +kernel
theorem zd114_15 : decode zxm114.2.1 15 = .ok (.ishr, 1) := by decide +kernel
theorem zd114_16 : decode zxm114.2.1 16 = .ok (.iconst 1, 1) := by decide +kernel
theorem zd114_17 : decode zxm114.2.1 17 = .ok (.iand, 1) := by decide +kernel
theorem zd114_18 : decode zxm114.2.1 18 = .ok (.ifCond .eq 26, 3) := by decide +kernel
theorem zd114_21 : decode zxm114.2.1 21 = .ok (.aload_n 0, 1) := by decide +kernel
theorem zd114_22 : decode zxm114.2.1 22 = .ok (.getfield 34, 3) := by decide +kernel
theorem zd114_25 : decode zxm114.2.1 25 = .ok (.iload 4, 2) := by decide +kernel
theorem zd114_27 : decode zxm114.2.1 27 = .ok (.iaload, 1) := by decide +kernel
theorem zd114_28 : decode zxm114.2.1 28 = .ok (.iload_n 1, 1) := by decide +kernel
theorem zd114_29 : decode zxm114.2.1 29 = .ok (.iand, 1) := by decide +kernel
theorem zd114_30 : decode zxm114.2.1 30 = .ok (.invokestatic 55, 3) := by decide +kernel
theorem zd114_33 : decode zxm114.2.1 33 = .ok (.iload_n 2, 1) := by decide +kernel
theorem zd114_34 : decode zxm114.2.1 34 = .ok (.if_icmp .lt 10, 3) := by decide +kernel
theorem zd114_37 : decode zxm114.2.1 37 = .ok (.iload_n 3, 1) := by decide +kernel
theorem zd114_38 : decode zxm114.2.1 38 = .ok (.iconst 1, 1) := by decide +kernel
theorem zd114_39 : decode zxm114.2.1 39 = .ok (.iload 4, 2) := by decide +kernel
theorem zd114_41 : decode zxm114.2.1 41 = .ok (.ishl, 1) := by decide +kernel
theorem zd114_42 : decode zxm114.2.1 42 = .ok (.ior, 1) := by decide +kernel
theorem zd114_43 : decode zxm114.2.1 43 = .ok (.istore_n 3, 1) := by decide +kernel
theorem zd114_44 : decode zxm114.2.1 44 = .ok (.iinc 4 1, 3) := by decide +kernel
theorem zd114_47 : decode zxm114.2.1 47 = .ok (.goto (-42), 3) := by decide +kernel
theorem zd114_50 : decode zxm114.2.1 50 = .ok (.iload_n 3, 1) := by decide +kernel
theorem zd114_51 : decode zxm114.2.1 51 = .ok (.ireturn, 1) := by decide +kernel
theorem zt_Matcher_withLegs {x1 : Int} {x2 : Int} {g0 : (Int → Int)} {o : Int} (h : zf_Matcher_withLegs x1 x2 g0 = some o) : zv_Fn z_TB z_cl z_KX zy_Matcher_withLegs zxm114 (1, 60) [.inr 0, .inl x1, .inl x2] [.inr 1] [g0] (some o) [.inr 1] [g0] := zv_meth (K := (z_KF4, z_KC4, z_KL4, z_KT4, [], [], [], none)) (FT := z_FT) (MT := z_MT) (n := 3) zxp114 (z_ks4 _ (fun _ h => List.mem_cons_of_mem _ h) _ _ _ _ (fun j r h _ => by cases h)) (fun _ _ => zs_KX_p) zyw_Matcher_withLegs (fun va F G h => by obtain ⟨rfl, _⟩ := h; rfl) (fun va F G h => by obtain ⟨rfl, _⟩ := h; rfl) rfl fun good va F G hB hret hvret hP => by
  obtain ⟨rfl, rfl, rfl⟩ := hP
  have l0 : ∀ (n : Nat) (x1 : Int) (x2 : Int) (x3 : Int) (x4 : Int) (q : Int), zf_Matcher_withLegs_l0 x1 x2 g0 n x3 x4 = some q → (good 50 [.inr 1000, .inr 1000, .inr 1000, .inl q, .inr 1000] [] [.inr 1] [g0]) → good 5 [.inr 0, .inl x1, .inl x2, .inl x3, .inl x4] [] [.inr 1] [g0] := by
    intro n
    induction n with
    | zero => intro x1 x2 x3 x4 q h; exact absurd (show none = some q from h) (fun h => by cases h)
    | succ n ih =>
      intro x1 x2 x3 x4 q h hK
      replace h : zf_Matcher_withLegs_l0_b x1 x2 g0 (zf_Matcher_withLegs_l0 x1 x2 g0 n) x3 x4 = some q := h
      unfold zf_Matcher_withLegs_l0_b at h
      refine zv_ild hB zd114_5 rfl rfl ?_
      refine zv_con hB zd114_7 rfl ?_
      refine zv_cge hB zd114_9 rfl (fun hc1 => ?_) (fun hc1 => ?_)
      · rw [if_neg (Int.not_lt.mpr hc1)] at h
        have hq := Option.some.inj h
        subst hq
        refine zv_wk hB (L' := [.inr 1000, .inr 1000, .inr 1000, .inl x3, .inr 1000]) (F' := [.inr 1]) ⟨fun (h : zv_is (.inr 1000)) => (Nat.lt_irrefl 1000 h).elim, fun (h : zv_is (.inr 1000)) => (Nat.lt_irrefl 1000 h).elim, fun (h : zv_is (.inr 1000)) => (Nat.lt_irrefl 1000 h).elim, fun _ => rfl, fun (h : zv_is (.inr 1000)) => (Nat.lt_irrefl 1000 h).elim, trivial⟩ ⟨fun _ => rfl, trivial⟩ ?_
        exact hK
      · rw [if_pos hc1] at h
        refine zv_ild hB zd114_12 rfl rfl ?_
        refine zv_ild hB zd114_13 rfl rfl ?_
        refine zv_shrw hB zd114_15 ?_
        refine zv_con hB zd114_16 rfl ?_
        refine zv_andw hB zd114_17 ?_
        refine zv_zeq hB zd114_18 rfl (fun hc2 => ?_) (fun hc2 => ?_)
        · rw [if_pos hc2] at h
          refine zv_iincw hB zd114_44 rfl rfl ?_
          refine zv_goto hB zd114_47 rfl ?_
          exact ih _ _ _ _ q h hK
        · rw [if_neg hc2] at h
          refine zv_ald hB zd114_21 rfl rfl rfl ?_
          refine zv_getq hB zd114_22 rfl rfl rfl ?_
          refine zv_ild hB zd114_25 rfl rfl ?_
          obtain ⟨c3, h⟩ := zi_if h
          refine zv_iald hB zd114_27 rfl rfl (zi_ix_ok c3).1 (zi_ix_ok c3).2 (fun _ _ => ?_)
          refine zv_ild hB zd114_28 rfl rfl ?_
          refine zv_andw hB zd114_29 ?_
          obtain ⟨r4, hr4, h⟩ := zi_bind h
          refine zv_cs hB (zv_emq (va2 := [.inl (zi_and (g0 x4) x1)]) (F := [.inr 1]) (F' := [.inr 1]) (G := [g0]) (G' := [g0]) (ρ := []) (φ := []) (ψ := []) [none] [none] zyw_Integer_bitCount zyw_Matcher_withLegs zye_Matcher_withLegs (by decide +kernel) (zt_Integer_bitCount hr4) trivial trivial rfl rfl rfl rfl rfl rfl rfl) zd114_30 zxt102 rfl (by decide) (by decide) rfl ?_
          refine zv_ild hB zd114_33 rfl rfl ?_
          refine zv_clt hB zd114_34 rfl (fun hc5 => ?_) (fun hc5 => ?_)
          · rw [if_pos hc5] at h
            refine zv_iincw hB zd114_44 rfl rfl ?_
            refine zv_goto hB zd114_47 rfl ?_
            exact ih _ _ _ _ q h hK
          · rw [if_neg (Int.not_lt.mpr hc5)] at h
            refine zv_ild hB zd114_37 rfl rfl ?_
            refine zv_con hB zd114_38 rfl ?_
            refine zv_ild hB zd114_39 rfl rfl ?_
            refine zv_shlw hB zd114_41 ?_
            refine zv_orw hB zd114_42 ?_
            refine zv_ist hB zd114_43 rfl rfl rfl ?_
            refine zv_iincw hB zd114_44 rfl rfl ?_
            refine zv_goto hB zd114_47 rfl ?_
            exact ih _ _ _ _ q h hK
  unfold zf_Matcher_withLegs at h
  refine zv_con hB zd114_0 rfl ?_
  refine zv_ist hB zd114_1 rfl rfl rfl ?_
  refine zv_con hB zd114_2 rfl ?_
  refine zv_ist hB zd114_3 rfl rfl rfl ?_
  obtain ⟨q6, hq6, h⟩ := zi_bind h
  refine l0 _ _ _ _ _ q6 hq6 ?_
  show good 50 [.inr 1000, .inr 1000, .inr 1000, .inl q6, .inr 1000] [] [.inr 1] [g0]
  refine zv_ild hB zd114_50 rfl rfl ?_
  have hw := Option.some.inj h
  subst hw
  exact hret _ _ _ _ _ zd114_51 (by trivial) ⟨rfl, rfl, rfl⟩
/-! Matcher_begin_24 (LStarTales$Tale;I[I)V -/
-- names: 0 Matcher('arg', 0), 1 Tale('arg', 1), 2 (0, 24)('arg', 3), 3 (0, 72)(0, 8, 0), 4 (0, 8)(1, 6, 2), 5 (0, 24)(0, 8, 1)
-- fields: f0 = 0.tale_, f1 = 0.joined_, f2 = 0.deadEnds_; arrays: g0 = 2, g1 = 3, g2 = 4, g3 = 5; out: [('f', 2), ('g', 1), ('g', 3)]
abbrev zy_Matcher_begin_24 : zNL := (6, [(0, 8), (1, 6)], [(0, 8, 3, 0), (0, 8, 4, 1), (0, 8, 6, 2)], [(0, 8, 0, 3), (1, 6, 2, 4), (0, 8, 1, 5)], [(2, 0, 24, 0), (3, 0, 72, 1), (4, 0, 8, 2), (5, 0, 24, 3)])
theorem zyw_Matcher_begin_24 : zv_wf zy_Matcher_begin_24 = true := by decide +kernel
theorem zye_Matcher_begin_24 : zv_ek2 zy_Matcher_begin_24 = true := by decide +kernel
def zf_Matcher_begin_24_l0_b (x2 : Int) (g0 : (Int → Int)) (g2 : (Int → Int)) (rec : Int → (Int → Int) → Option ((Int → Int))) (x4 : Int) (g1 : (Int → Int)) : Option ((Int → Int)) := if x4 < 8 then (cond (zi_ix x4 8) ((zf_Integer_bitCount (g2 x4)).bind fun r3 => ((zf_Matcher_withLegs x2 r3 g0).bind fun r4 => (cond (zi_ix x4 72) (rec (zi_w (x4 + 1)) (zv_up g1 x4 r4)) none))) none) else (some g1)
def zf_Matcher_begin_24_l0 (x2 : Int) (g0 : (Int → Int)) (g2 : (Int → Int)) : Nat → Int → (Int → Int) → Option ((Int → Int))
  | 0, _, _ => none
  | n + 1, x4, g1 => zf_Matcher_begin_24_l0_b x2 g0 g2 (zf_Matcher_begin_24_l0 x2 g0 g2 n) x4 g1
def zf_Matcher_begin_24_l2_b (x2 : Int) (x4 : Int) (g0 : (Int → Int)) (rec : Int → (Int → Int) → Option ((Int → Int))) (x5 : Int) (g3 : (Int → Int)) : Option ((Int → Int)) := if x5 < x4 then (if (zi_and (zi_shr x2 x4) 1) = 0 then (some g3) else (cond (zi_ix x4 24) (cond (zi_ix x5 24) (if (zi_and (zi_and (zi_xor (g0 x4) (g0 x5)) x2) (zi_xor (zi_or (zi_shl 1 x4) (zi_shl 1 x5)) (-1))) = 0 then (if (zi_and (zi_shr x2 x5) 1) = 0 then (rec (zi_w (x5 + 1)) g3) else (rec (zi_w (x5 + 1)) (zv_up (zv_up g3 x4 (zi_or (g3 x4) (zi_shl 1 x5))) x5 (zi_or ((zv_up g3 x4 (zi_or (g3 x4) (zi_shl 1 x5))) x5) (zi_shl 1 x4))))) else (rec (zi_w (x5 + 1)) g3)) none) none)) else (some g3)
def zf_Matcher_begin_24_l2 (x2 : Int) (x4 : Int) (g0 : (Int → Int)) : Nat → Int → (Int → Int) → Option ((Int → Int))
  | 0, _, _ => none
  | n + 1, x5, g3 => zf_Matcher_begin_24_l2_b x2 x4 g0 (zf_Matcher_begin_24_l2 x2 x4 g0 n) x5 g3
def zf_Matcher_begin_24_l1_b (x2 : Int) (g0 : (Int → Int)) (rec : Int → (Int → Int) → Option ((Int → Int))) (x4 : Int) (g3 : (Int → Int)) : Option ((Int → Int)) := if x4 < 24 then (cond (zi_ix x4 24) ((zf_Matcher_begin_24_l2 x2 x4 g0 zi_fu 0 (zv_up g3 x4 (zi_shl 1 x4))).bind fun q17 => (rec (zi_w (x4 + 1)) q17)) none) else (some g3)
def zf_Matcher_begin_24_l1 (x2 : Int) (g0 : (Int → Int)) : Nat → Int → (Int → Int) → Option ((Int → Int))
  | 0, _, _ => none
  | n + 1, x4, g3 => zf_Matcher_begin_24_l1_b x2 g0 (zf_Matcher_begin_24_l1 x2 g0 n) x4 g3
def zf_Matcher_begin_24 (x2 : Int) (f2 : Int) (g0 : (Int → Int)) (g1 : (Int → Int)) (g2 : (Int → Int)) (g3 : (Int → Int)) : Option (Int × (Int → Int) × (Int → Int)) := (zf_Matcher_begin_24_l0 x2 g0 g2 zi_fu 0 g1).bind fun q6 => ((zf_Matcher_begin_24_l1 x2 g0 zi_fu 0 g3).bind fun q18 => (some (0, q6, q18)))
theorem zd113_0 : decode zxm113.2.1 0 = .ok (.aload_n 0, 1) := by decide +kernel
theorem zd113_1 : decode zxm113.2.1 1 = .ok (.aload_n 1, 1) := by decide +kernel
theorem zd113_2 : decode zxm113.2.1 2 = .ok (.putfield 30, 3) := by decide +kernel
theorem zd113_5 : decode zxm113.2.1 5 = .ok (.aload_n 0, 1) := by decide +kernel
theorem zd113_6 : decode zxm113.2.1 6 = .ok (.aload_n 3, 1) := by decide +kernel
theorem zd113_7 : decode zxm113.2.1 7 = .ok (.putfield 34, 3) := by decide +kernel
theorem zd113_10 : decode zxm113.2.1 10 = .ok (.aload_n 0, 1) := by decide +kernel
theorem zd113_11 : decode zxm113.2.1 11 = .ok (.iconst 0, 1) := by decide +kernel
theorem zd113_12 : decode zxm113.2.1 12 = .ok (.putfield 27, 3) := by decide +kernel
theorem zd113_15 : decode zxm113.2.1 15 = .ok (.iconst 0, 1) := by decide +kernel
theorem zd113_16 : decode zxm113.2.1 16 = .ok (.istore 4, 2) := by decide +kernel
theorem zd113_18 : decode zxm113.2.1 18 = .ok (.iload 4, 2) := by decide +kernel
theorem zd113_20 : decode zxm113.2.1 20 = .ok (.bipush 8, 2) := by decide +kernel
theorem zd113_22 : decode zxm113.2.1 22 = .ok (.if_icmp .ge 34, 3) := by decide +kernel
theorem zd113_25 : decode zxm113.2.1 25 = .ok (.aload_n 0, 1) := by decide +kernel
theorem zd113_26 : decode zxm113.2.1 26 = .ok (.getfield 11, 3) := by decide +kernel
theorem zd113_29 : decode zxm113.2.1 29 = .ok (.iload 4, 2) := by decide +kernel
theorem zd113_31 : decode zxm113.2.1 31 = .ok (.aload_n 0, 1) := by decide +kernel
theorem zd113_32 : decode zxm113.2.1 32 = .ok (.iload_n 2, 1) := by decide +kernel
theorem zd113_33 : decode zxm113.2.1 33 = .ok (.aload_n 0, 1) := by decide +kernel
theorem zd113_34 : decode zxm113.2.1 34 = .ok (.getfield 30, 3) := by decide +kernel
theorem zd113_37 : decode zxm113.2.1 37 = .ok (.getfield 52, 3) := by decide +kernel
theorem zd113_40 : decode zxm113.2.1 40 = .ok (.iload 4, 2) := by decide +kernel
theorem zd113_42 : decode zxm113.2.1 42 = .ok (.iaload, 1) := by decide +kernel
theorem zd113_43 : decode zxm113.2.1 43 = .ok (.invokestatic 55, 3) := by decide +kernel
theorem zd113_46 : decode zxm113.2.1 46 = .ok (.invokevirtual 61, 3) := by decide +kernel
theorem zd113_49 : decode zxm113.2.1 49 = .ok (.iastore, 1) := by decide +kernel
theorem zd113_50 : decode zxm113.2.1 50 = .ok (.iinc 4 1, 3) := by decide +kernel
theorem zd113_53 : decode zxm113.2.1 53 = .ok (.goto (-35), 3) := by decide +kernel
theorem zd113_56 : decode zxm113.2.1 56 = .ok (.iconst 0, 1) := by decide +kernel
theorem zd113_57 : decode zxm113.2.1 57 = .ok (.istore 4, 2) := by decide +kernel
theorem zd113_59 : decode zxm113.2.1 59 = .ok (.iload 4, 2) := by decide +kernel
theorem zd113_61 : decode zxm113.2.1 61 = .ok (.bipush 24, 2) := by decide +kernel
theorem zd113_63 : decode zxm113.2.1 63 = .ok (.if_icmp .ge 130, 3) := by decide +kernel
theorem zd113_66 : decode zxm113.2.1 66 = .ok (.aload_n 0, 1) := by decide +kernel
theorem zd113_67 : decode zxm113.2.1 67 = .ok (.getfield 17, 3) := by decide +kernel
theorem zd113_70 : decode zxm113.2.1 70 = .ok (.iload 4, 2) := by decide +kernel
theorem zd113_72 : decode zxm113.2.1 72 = .ok (.iconst 1, 1) := by decide +kernel
theorem zd113_73 : decode zxm113.2.1 73 = .ok (.iload 4, 2) := by decide +kernel
theorem zd113_75 : decode zxm113.2.1 75 = .ok (.ishl, 1) := by decide +kernel
theorem zd113_76 : decode zxm113.2.1 76 = .ok (.iastore, 1) := by decide +kernel
theorem zd113_77 : decode zxm113.2.1 77 = .ok (.iconst 0, 1) := by decide +kernel
theorem zd113_78 : decode zxm113.2.1 78 = .ok (.istore 5, 2) := by decide +kernel
theorem zd113_80 : decode zxm113.2.1 80 = .ok (.iload 5, 2) := by decide +kernel
theorem zd113_82 : decode zxm113.2.1 82 = .ok (.iload 4, 2) := by decide +kernel
theorem zd113_84 : decode zxm113.2.1 84 = .ok (.if_icmp .ge 103, 3) := by decide +kernel
theorem zd113_87 : decode zxm113.2.1 87 = .ok (.iload_n 2, 1) := by decide +kernel
theorem zd113_88 : decode zxm113.2.1 88 = .ok (.iload 4, 2) := by decide +kernel
theorem zd113_90 : decode zxm113.2.1 90 = .ok (.ishr, 1) := by decide +kernel
theorem zd113_91 : decode zxm113.2.1 91 = .ok (.iconst 1, 1) := by decide +kernel
theorem zd113_92 : decode zxm113.2.1 92 = .ok (.iand, 1) := by decide +kernel
theorem zd113_93 : decode zxm113.2.1 93 = .ok (.ifCond .eq 94, 3) := by decide +kernel
theorem zd113_96 : decode zxm113.2.1 96 = .ok (.iconst 1, 1) := by decide +kernel
theorem zd113_97 : decode zxm113.2.1 97 = .ok (.iload 4, 2) := by decide +kernel
theorem zd113_99 : decode zxm113.2.1 99 = .ok (.ishl, 1) := by decide +kernel
theorem zd113_100 : decode zxm113.2.1 100 = .ok (.iconst 1, 1) := by decide +kernel
theorem zd113_101 : decode zxm113.2.1 101 = .ok (.iload 5, 2) := by decide +kernel
theorem zd113_103 : decode zxm113.2.1 103 = .ok (.ishl, 1) := by decide +kernel
theorem zd113_104 : decode zxm113.2.1 104 = .ok (.ior, 1) := by decide +kernel
theorem zd113_105 : decode zxm113.2.1 105 = .ok (.istore 6, 2) := by decide +kernel
theorem zd113_107 : decode zxm113.2.1 107 = .ok (.aload_n 0, 1) := by decide +kernel
theorem zd113_108 : decode zxm113.2.1 108 = .ok (.getfield 34, 3) := by decide +kernel
theorem zd113_111 : decode zxm113.2.1 111 = .ok (.iload 4, 2) := by decide +kernel
theorem zd113_113 : decode zxm113.2.1 113 = .ok (.iaload, 1) := by decide +kernel
theorem zd113_114 : decode zxm113.2.1 114 = .ok (.aload_n 0, 1) := by decide +kernel
theorem zd113_115 : decode zxm113.2.1 115 = .ok (.getfield 34, 3) := by decide +kernel
theorem zd113_118 : decode zxm113.2.1 118 = .ok (.iload 5, 2) := by decide +kernel
theorem zd113_120 : decode zxm113.2.1 120 = .ok (.iaload, 1) := by decide +kernel
theorem zd113_121 : decode zxm113.2.1 121 = .ok (.ixor, 1) := by decide +kernel
theorem zd113_122 : decode zxm113.2.1 122 = .ok (.iload_n 2, 1) := by decide +kernel
theorem zd113_123 : decode zxm113.2.1 123 = .ok (.iand, 1) := by decide +kernel
theorem zd113_124 : decode zxm113.2.1 124 = .ok (.iload 6, 2) := by decide +kernel
theorem zd113_126 : decode zxm113.2.1 126 = .ok (.iconst (-1), 1) := by decide +kernel
theorem zd113_127 : decode zxm113.2.1 127 = .ok (.ixor, 1) := by decide +kernel
theorem zd113_128 : decode zxm113.2.1 128 = .ok (.iand, 1) := by decide +kernel
theorem zd113_129 : decode zxm113.2.1 129 = .ok (.ifCond .ne 7, 3) := by decide +kernel
theorem zd113_132 : decode zxm113.2.1 132 = .ok (.iconst 1, 1) := by decide +kernel
theorem zd113_133 : decode zxm113.2.1 133 = .ok (.goto 4, 3) := by decide +kernel
theorem zd113_136 : decode zxm113.2.1 136 = .ok (.iconst 0, 1) := by decide +kernel
theorem zd113_137 : decode zxm113.2.1 137 = .ok (.istore 7, 2) := by decide +kernel
theorem zd113_139 : decode zxm113.2.1 139 = .ok (.iload 7, 2) := by decide +kernel
theorem zd113_141 : decode zxm113.2.1 141 = .ok (.ifCond .eq 40, 3) := by decide +kernel
theorem zd113_144 : decode zxm113.2.1 144 = .ok (.iload_n 2, 1) := by decide +kernel
theorem zd113_145 : decode zxm113.2.1 145 = .ok (.iload 5, 2) := by decide +kernel
theorem zd113_147 : decode zxm113.2.1 147 = .ok (.ishr, 1) := by decide +kernel
theorem zd113_148 : decode zxm113.2.1 148 = .ok (.iconst 1, 1) := by decide +kernel
theorem zd113_149 : decode zxm113.2.1 149 = .ok (.iand, 1) := by decide +kernel
theorem zd113_150 : decode zxm113.2.1 150 = .ok (.ifCond .eq 31, 3) := by decide +kernel
theorem zd113_153 : decode zxm113.2.1 153 = .ok (.aload_n 0, 1) := by decide +kernel
theorem zd113_154 : decode zxm113.2.1 154 = .ok (.getfield 17, 3) := by decide +kernel
theorem zd113_157 : decode zxm113.2.1 157 = .ok (.iload 4, 2) := by decide +kernel
theorem zd113_159 : decode zxm113.2.1 159 = .ok (.dup2, 1) := by decide +kernel
theorem zd113_160 : decode zxm113.2.1 160 = .ok (.iaload, 1) := by decide +kernel
theorem zd113_161 : decode zxm113.2.1 161 = .ok (.iconst 1, 1) := by decide +kernel
theorem zd113_162 : decode zxm113.2.1 162 = .ok (.iload 5, 2) := by decide +kernel
theorem zd113_164 : decode zxm113.2.1 164 = .ok (.ishl, 1) := by decide +kernel
theorem zd113_165 : decode zxm113.2.1 165 = .ok (.ior, 1) := by decide +kernel
theorem zd113_166 : decode zxm113.2.1 166 = .ok (.iastore, 1) := by decide +kernel
theorem zd113_167 : decode zxm113.2.1 167 = .ok (.aload_n 0, 1) := by decide +kernel
theorem zd113_168 : decode zxm113.2.1 168 = .ok (.getfield 17, 3) := by decide +kernel
theorem zd113_171 : decode zxm113.2.1 171 = .ok (.iload 5, 2) := by decide +kernel
theorem zd113_173 : decode zxm113.2.1 173 = .ok (.dup2, 1) := by decide +kernel
theorem zd113_174 : decode zxm113.2.1 174 = .ok (.iaload, 1) := by decide +kernel
theorem zd113_175 : decode zxm113.2.1 175 = .ok (.iconst 1, 1) := by decide +kernel
theorem zd113_176 : decode zxm113.2.1 176 = .ok (.iload 4, 2) := by decide +kernel
theorem zd113_178 : decode zxm113.2.1 178 = .ok (.ishl, 1) := by decide +kernel
theorem zd113_179 : decode zxm113.2.1 179 = .ok (.ior, 1) := by decide +kernel
theorem zd113_180 : decode zxm113.2.1 180 = .ok (.iastore, 1) := by decide +kernel
theorem zd113_181 : decode zxm113.2.1 181 = .ok (.iinc 5 1, 3) := by decide +kernel
theorem zd113_184 : decode zxm113.2.1 184 = .ok (.goto (-104), 3) := by decide +kernel
theorem zd113_187 : decode zxm113.2.1 187 = .ok (.iinc 4 1, 3) := by decide +kernel
theorem zd113_190 : decode zxm113.2.1 190 = .ok (.goto (-131), 3) := by decide +kernel
theorem zd113_193 : decode zxm113.2.1 193 = .ok (.return_, 1) := by decide +kernel
theorem zt_Matcher_begin_24 {x2 : Int} {f2 : Int} {g0 : (Int → Int)} {g1 : (Int → Int)} {g2 : (Int → Int)} {g3 : (Int → Int)} {o : Int × (Int → Int) × (Int → Int)} (h : zf_Matcher_begin_24 x2 f2 g0 g1 g2 g3 = some o) : zv_Fn z_TB z_cl z_KX zy_Matcher_begin_24 zxm113 (2, 120) [.inr 0, .inr 1, .inl x2, .inr 2] [.inr 1000, .inr 1000, .inl f2] [g0, g1, g2, g3] none [.inr 1, .inr 2, .inl o.1] [g0, o.2.1, g2, o.2.2] := zv_meth (K := (z_KF4, z_KC4, z_KL4, z_KT4, [], [], [], none)) (FT := z_FT) (MT := z_MT) (n := 4) zxp113 (z_ks4 _ (fun _ h => List.mem_cons_of_mem _ h) _ _ _ _ (fun j r h _ => by cases h)) (fun _ _ => zs_KX_p) zyw_Matcher_begin_24 (fun va F G h => by obtain ⟨rfl, _⟩ := h; rfl) (fun va F G h => by obtain ⟨rfl, _⟩ := h; rfl) rfl fun good va F G hB hret hvret hP => by
  obtain ⟨rfl, rfl, rfl⟩ := hP
  have l0 : ∀ (n : Nat) (x2 : Int) (x4 : Int) (f2 : Int) (g1 : (Int → Int)) (g3 : (Int → Int)) (q : (Int → Int)), zf_Matcher_begin_24_l0 x2 g0 g2 n x4 g1 = some q → (good 56 [.inr 0, .inr 1000, .inl x2, .inr 1000, .inr 1000, .inr 1000, .inr 1000, .inr 1000] [] [.inr 1, .inr 2, .inl f2] [g0, q, g2, g3]) → good 18 [.inr 0, .inr 1000, .inl x2, .inr 1000, .inl x4, .inr 1000, .inr 1000, .inr 1000] [] [.inr 1, .inr 2, .inl f2] [g0, g1, g2, g3] := by
    intro n
    induction n with
    | zero => intro x2 x4 f2 g1 g3 q h; exact absurd (show none = some q from h) (fun h => by cases h)
    | succ n ih =>
      intro x2 x4 f2 g1 g3 q h hK
      replace h : zf_Matcher_begin_24_l0_b x2 g0 g2 (zf_Matcher_begin_24_l0 x2 g0 g2 n) x4 g1 = some q := h
      unfold zf_Matcher_begin_24_l0_b at h
      refine zv_ild hB zd113_18 rfl rfl ?_
      refine zv_con hB zd113_20 rfl ?_
      refine zv_cge hB zd113_22 rfl (fun hc1 => ?_) (fun hc1 => ?_)
      · rw [if_neg (Int.not_lt.mpr hc1)] at h
        have hq := Option.some.inj h
        subst hq
        refine zv_wk hB (L' := [.inr 0, .inr 1000, .inl x2, .inr 1000, .inr 1000, .inr 1000, .inr 1000, .inr 1000]) (F' := [.inr 1, .inr 2, .inl f2]) ⟨fun _ => rfl, fun (h : zv_is (.inr 1000)) => (Nat.lt_irrefl 1000 h).elim, fun _ => rfl, fun (h : zv_is (.inr 1000)) => (Nat.lt_irrefl 1000 h).elim, fun (h : zv_is (.inr 1000)) => (Nat.lt_irrefl 1000 h).elim, fun (h : zv_is (.inr 1000)) => (Nat.lt_irrefl 1000 h).elim, fun (h : zv_is (.inr 1000)) => (Nat.lt_irrefl 1000 h).elim, fun (h : zv_is (.inr 1000)) => (Nat.lt_irrefl 1000 h).elim, trivial⟩ ⟨fun _ => rfl, fun _ => rfl, fun _ => rfl, trivial⟩ ?_
        exact hK
      · rw [if_pos hc1] at h
        refine zv_ald hB zd113_25 rfl rfl rfl ?_
        refine zv_getr hB zd113_26 rfl ?_
        refine zv_ild hB zd113_29 rfl rfl ?_
        refine zv_ald hB zd113_31 rfl rfl rfl ?_
        refine zv_ild hB zd113_32 rfl rfl ?_
        refine zv_ald hB zd113_33 rfl rfl rfl ?_
        refine zv_getq hB zd113_34 rfl rfl rfl ?_
        refine zv_getr hB zd113_37 rfl ?_
        refine zv_ild hB zd113_40 rfl rfl ?_
        obtain ⟨c2, h⟩ := zi_if h
        refine zv_iald hB zd113_42 rfl rfl (zi_ix_ok c2).1 (zi_ix_ok c2).2 (fun _ _ => ?_)
        obtain ⟨r3, hr3, h⟩ := zi_bind h
        refine zv_cs hB (zv_emq (va2 := [.inl (g2 x4)]) (F := [.inr 1, .inr 2, .inl f2]) (F' := [.inr 1, .inr 2, .inl f2]) (G := [g0, g1, g2, g3]) (G' := [g0, g1, g2, g3]) (ρ := []) (φ := []) (ψ := []) [none, none, none] [none, none, none, none] zyw_Integer_bitCount zyw_Matcher_begin_24 zye_Matcher_begin_24 (by decide +kernel) (zt_Integer_bitCount hr3) trivial trivial rfl rfl rfl rfl rfl rfl rfl) zd113_43 zxt102 rfl (by decide) (by decide) rfl ?_
        obtain ⟨r4, hr4, h⟩ := zi_bind h
        refine zv_cv hB (zv_emq (va2 := [.inr 0, .inl x2, .inl r3]) (F := [.inr 1, .inr 2, .inl f2]) (F' := [.inr 1, .inr 2, .inl f2]) (G := [g0, g1, g2, g3]) (G' := [g0, g1, g2, g3]) (ρ := [0, 2]) (φ := [1]) (ψ := [0]) [none, some 0, none] [some 0, none, none, none] zyw_Matcher_withLegs zyw_Matcher_begin_24 zye_Matcher_begin_24 (by decide +kernel) (zt_Matcher_withLegs hr4) ⟨⟨_, rfl, fun _ => rfl⟩, trivial⟩ ⟨rfl, trivial⟩ rfl rfl rfl rfl rfl rfl rfl) zd113_46 zxt114 rfl (by decide) (by decide) rfl ?_
        obtain ⟨c5, h⟩ := zi_if h
        refine zv_iast hB zd113_49 rfl rfl (zi_ix_ok c5).1 (zi_ix_ok c5).2 ?_
        refine zv_iincw hB zd113_50 rfl rfl ?_
        refine zv_goto hB zd113_53 rfl ?_
        exact ih _ _ _ _ _ q h hK
  have l2 : ∀ (n : Nat) (x2 : Int) (x4 : Int) (x5 : Int) (f2 : Int) (g1 : (Int → Int)) (g3 : (Int → Int)) (q : (Int → Int)), zf_Matcher_begin_24_l2 x2 x4 g0 n x5 g3 = some q → (good 187 [.inr 0, .inr 1000, .inl x2, .inr 1000, .inl x4, .inr 1000, .inr 1000, .inr 1000] [] [.inr 1, .inr 2, .inl f2] [g0, g1, g2, q]) → good 80 [.inr 0, .inr 1000, .inl x2, .inr 1000, .inl x4, .inl x5, .inr 1000, .inr 1000] [] [.inr 1, .inr 2, .inl f2] [g0, g1, g2, g3] := by
    intro n
    induction n with
    | zero => intro x2 x4 x5 f2 g1 g3 q h; exact absurd (show none = some q from h) (fun h => by cases h)
    | succ n ih =>
      intro x2 x4 x5 f2 g1 g3 q h hK
      replace h : zf_Matcher_begin_24_l2_b x2 x4 g0 (zf_Matcher_begin_24_l2 x2 x4 g0 n) x5 g3 = some q := h
      unfold zf_Matcher_begin_24_l2_b at h
      refine zv_ild hB zd113_80 rfl rfl ?_
      refine zv_ild hB zd113_82 rfl rfl ?_
      refine zv_cge hB zd113_84 rfl (fun hc9 => ?_) (fun hc9 => ?_)
      · rw [if_neg (Int.not_lt.mpr hc9)] at h
        have hq := Option.some.inj h
        subst hq
        refine zv_wk hB (L' := [.inr 0, .inr 1000, .inl x2, .inr 1000, .inl x4, .inr 1000, .inr 1000, .inr 1000]) (F' := [.inr 1, .inr 2, .inl f2]) ⟨fun _ => rfl, fun (h : zv_is (.inr 1000)) => (Nat.lt_irrefl 1000 h).elim, fun _ => rfl, fun (h : zv_is (.inr 1000)) => (Nat.lt_irrefl 1000 h).elim, fun _ => rfl, fun (h : zv_is (.inr 1000)) => (Nat.lt_irrefl 1000 h).elim, fun (h : zv_is (.inr 1000)) => (Nat.lt_irrefl 1000 h).elim, fun (h : zv_is (.inr 1000)) => (Nat.lt_irrefl 1000 h).elim, trivial⟩ ⟨fun _ => rfl, fun _ => rfl, fun _ => rfl, trivial⟩ ?_
        exact hK
      · rw [if_pos hc9] at h
        refine zv_ild hB zd113_87 rfl rfl ?_
        refine zv_ild hB zd113_88 rfl rfl ?_
        refine zv_shrw hB zd113_90 ?_
        refine zv_con hB zd113_91 rfl ?_
        refine zv_andw hB zd113_92 ?_
        refine zv_zeq hB zd113_93 rfl (fun hc10 => ?_) (fun hc10 => ?_)
        · rw [if_pos hc10] at h
          have hq := Option.some.inj h
          subst hq
          refine zv_wk hB (L' := [.inr 0, .inr 1000, .inl x2, .inr 1000, .inl x4, .inr 1000, .inr 1000, .inr 1000]) (F' := [.inr 1, .inr 2, .inl f2]) ⟨fun _ => rfl, fun (h : zv_is (.inr 1000)) => (Nat.lt_irrefl 1000 h).elim, fun _ => rfl, fun (h : zv_is (.inr 1000)) => (Nat.lt_irrefl 1000 h).elim, fun _ => rfl, fun (h : zv_is (.inr 1000)) => (Nat.lt_irrefl 1000 h).elim, fun (h : zv_is (.inr 1000)) => (Nat.lt_irrefl 1000 h).elim, fun (h : zv_is (.inr 1000)) => (Nat.lt_irrefl 1000 h).elim, trivial⟩ ⟨fun _ => rfl, fun _ => rfl, fun _ => rfl, trivial⟩ ?_
          exact hK
        · rw [if_neg hc10] at h
          refine zv_con hB zd113_96 rfl ?_
          refine zv_ild hB zd113_97 rfl rfl ?_
          refine zv_shlw hB zd113_99 ?_
          refine zv_con hB zd113_100 rfl ?_
          refine zv_ild hB zd113_101 rfl rfl ?_
          refine zv_shlw hB zd113_103 ?_
          refine zv_orw hB zd113_104 ?_
          refine zv_ist hB zd113_105 rfl rfl rfl ?_
          refine zv_ald hB zd113_107 rfl rfl rfl ?_
          refine zv_getq hB zd113_108 rfl rfl rfl ?_
          refine zv_ild hB zd113_111 rfl rfl ?_
          obtain ⟨c11, h⟩ := zi_if h
          refine zv_iald hB zd113_113 rfl rfl (zi_ix_ok c11).1 (zi_ix_ok c11).2 (fun _ _ => ?_)
          refine zv_ald hB zd113_114 rfl rfl rfl ?_
          refine zv_getq hB zd113_115 rfl rfl rfl ?_
          refine zv_ild hB zd113_118 rfl rfl ?_
          obtain ⟨c12, h⟩ := zi_if h
          refine zv_iald hB zd113_120 rfl rfl (zi_ix_ok c12).1 (zi_ix_ok c12).2 (fun _ _ => ?_)
          refine zv_xorw hB zd113_121 ?_
          refine zv_ild hB zd113_122 rfl rfl ?_
          refine zv_andw hB zd113_123 ?_
          refine zv_ild hB zd113_124 rfl rfl ?_
          refine zv_con hB zd113_126 rfl ?_
          refine zv_xorw hB zd113_127 ?_
          refine zv_andw hB zd113_128 ?_
          refine zv_zne hB zd113_129 rfl (fun hc13 => ?_) (fun hc13 => ?_)
          · rw [if_neg hc13] at h
            refine zv_con hB zd113_136 rfl ?_
            refine zv_ist hB zd113_137 rfl rfl rfl ?_
            refine zv_ild hB zd113_139 rfl rfl ?_
            refine zv_zeq hB zd113_141 rfl (fun _ => ?_) (fun hc => absurd hc (by decide))
            refine zv_iincw hB zd113_181 rfl rfl ?_
            refine zv_goto hB zd113_184 rfl ?_
            refine zv_wk hB (L' := [.inr 0, .inr 1000, .inl x2, .inr 1000, .inl x4, .inl (zi_w (x5 + 1)), .inr 1000, .inr 1000]) (F' := [.inr 1, .inr 2, .inl f2]) ⟨fun _ => rfl, fun (h : zv_is (.inr 1000)) => (Nat.lt_irrefl 1000 h).elim, fun _ => rfl, fun (h : zv_is (.inr 1000)) => (Nat.lt_irrefl 1000 h).elim, fun _ => rfl, fun _ => rfl, fun (h : zv_is (.inr 1000)) => (Nat.lt_irrefl 1000 h).elim, fun (h : zv_is (.inr 1000)) => (Nat.lt_irrefl 1000 h).elim, trivial⟩ ⟨fun _ => rfl, fun _ => rfl, fun _ => rfl, trivial⟩ ?_
            exact ih _ _ _ _ _ _ q h hK
          · rw [if_pos hc13] at h
            refine zv_con hB zd113_132 rfl ?_
            refine zv_goto hB zd113_133 rfl ?_
            refine zv_ist hB zd113_137 rfl rfl rfl ?_
            refine zv_ild hB zd113_139 rfl rfl ?_
            refine zv_zeq hB zd113_141 rfl (fun hc => absurd hc (by decide)) (fun _ => ?_)
            refine zv_ild hB zd113_144 rfl rfl ?_
            refine zv_ild hB zd113_145 rfl rfl ?_
            refine zv_shrw hB zd113_147 ?_
            refine zv_con hB zd113_148 rfl ?_
            refine zv_andw hB zd113_149 ?_
            refine zv_zeq hB zd113_150 rfl (fun hc16 => ?_) (fun hc16 => ?_)
            · rw [if_pos hc16] at h
              refine zv_iincw hB zd113_181 rfl rfl ?_
              refine zv_goto hB zd113_184 rfl ?_
              refine zv_wk hB (L' := [.inr 0, .inr 1000, .inl x2, .inr 1000, .inl x4, .inl (zi_w (x5 + 1)), .inr 1000, .inr 1000]) (F' := [.inr 1, .inr 2, .inl f2]) ⟨fun _ => rfl, fun (h : zv_is (.inr 1000)) => (Nat.lt_irrefl 1000 h).elim, fun _ => rfl, fun (h : zv_is (.inr 1000)) => (Nat.lt_irrefl 1000 h).elim, fun _ => rfl, fun _ => rfl, fun (h : zv_is (.inr 1000)) => (Nat.lt_irrefl 1000 h).elim, fun (h : zv_is (.inr 1000)) => (Nat.lt_irrefl 1000 h).elim, trivial⟩ ⟨fun _ => rfl, fun _ => rfl, fun _ => rfl, trivial⟩ ?_
              exact ih _ _ _ _ _ _ q h hK
            · rw [if_neg hc16] at h
              refine zv_ald hB zd113_153 rfl rfl rfl ?_
              refine zv_getr hB zd113_154 rfl ?_
              refine zv_ild hB zd113_157 rfl rfl ?_
              refine zv_dup2 hB zd113_159 rfl rfl ?_
              refine zv_iald hB zd113_160 rfl rfl (zi_ix_ok c11).1 (zi_ix_ok c11).2 (fun _ _ => ?_)
              refine zv_con hB zd113_161 rfl ?_
              refine zv_ild hB zd113_162 rfl rfl ?_
              refine zv_shlw hB zd113_164 ?_
              refine zv_orw hB zd113_165 ?_
              refine zv_iast hB zd113_166 rfl rfl (zi_ix_ok c11).1 (zi_ix_ok c11).2 ?_
              refine zv_ald hB zd113_167 rfl rfl rfl ?_
              refine zv_getr hB zd113_168 rfl ?_
              refine zv_ild hB zd113_171 rfl rfl ?_
              refine zv_dup2 hB zd113_173 rfl rfl ?_
              refine zv_iald hB zd113_174 rfl rfl (zi_ix_ok c12).1 (zi_ix_ok c12).2 (fun _ _ => ?_)
              refine zv_con hB zd113_175 rfl ?_
              refine zv_ild hB zd113_176 rfl rfl ?_
              refine zv_shlw hB zd113_178 ?_
              refine zv_orw hB zd113_179 ?_
              refine zv_iast hB zd113_180 rfl rfl (zi_ix_ok c12).1 (zi_ix_ok c12).2 ?_
              refine zv_iincw hB zd113_181 rfl rfl ?_
              refine zv_goto hB zd113_184 rfl ?_
              refine zv_wk hB (L' := [.inr 0, .inr 1000, .inl x2, .inr 1000, .inl x4, .inl (zi_w (x5 + 1)), .inr 1000, .inr 1000]) (F' := [.inr 1, .inr 2, .inl f2]) ⟨fun _ => rfl, fun (h : zv_is (.inr 1000)) => (Nat.lt_irrefl 1000 h).elim, fun _ => rfl, fun (h : zv_is (.inr 1000)) => (Nat.lt_irrefl 1000 h).elim, fun _ => rfl, fun _ => rfl, fun (h : zv_is (.inr 1000)) => (Nat.lt_irrefl 1000 h).elim, fun (h : zv_is (.inr 1000)) => (Nat.lt_irrefl 1000 h).elim, trivial⟩ ⟨fun _ => rfl, fun _ => rfl, fun _ => rfl, trivial⟩ ?_
              exact ih _ _ _ _ _ _ q h hK
  have l1 : ∀ (n : Nat) (x2 : Int) (x4 : Int) (f2 : Int) (g1 : (Int → Int)) (g3 : (Int → Int)) (q : (Int → Int)), zf_Matcher_begin_24_l1 x2 g0 n x4 g3 = some q → (good 193 [.inr 1000, .inr 1000, .inr 1000, .inr 1000, .inr 1000, .inr 1000, .inr 1000, .inr 1000] [] [.inr 1, .inr 2, .inl f2] [g0, g1, g2, q]) → good 59 [.inr 0, .inr 1000, .inl x2, .inr 1000, .inl x4, .inr 1000, .inr 1000, .inr 1000] [] [.inr 1, .inr 2, .inl f2] [g0, g1, g2, g3] := by
    intro n
    induction n with
    | zero => intro x2 x4 f2 g1 g3 q h; exact absurd (show none = some q from h) (fun h => by cases h)
    | succ n ih =>
      intro x2 x4 f2 g1 g3 q h hK
      replace h : zf_Matcher_begin_24_l1_b x2 g0 (zf_Matcher_begin_24_l1 x2 g0 n) x4 g3 = some q := h
      unfold zf_Matcher_begin_24_l1_b at h
      refine zv_ild hB zd113_59 rfl rfl ?_
      refine zv_con hB zd113_61 rfl ?_
      refine zv_cge hB zd113_63 rfl (fun hc7 => ?_) (fun hc7 => ?_)
      · rw [if_neg (Int.not_lt.mpr hc7)] at h
        have hq := Option.some.inj h
        subst hq
        refine zv_wk hB (L' := [.inr 1000, .inr 1000, .inr 1000, .inr 1000, .inr 1000, .inr 1000, .inr 1000, .inr 1000]) (F' := [.inr 1, .inr 2, .inl f2]) ⟨fun (h : zv_is (.inr 1000)) => (Nat.lt_irrefl 1000 h).elim, fun (h : zv_is (.inr 1000)) => (Nat.lt_irrefl 1000 h).elim, fun (h : zv_is (.inr 1000)) => (Nat.lt_irrefl 1000 h).elim, fun (h : zv_is (.inr 1000)) => (Nat.lt_irrefl 1000 h).elim, fun (h : zv_is (.inr 1000)) => (Nat.lt_irrefl 1000 h).elim, fun (h : zv_is (.inr 1000)) => (Nat.lt_irrefl 1000 h).elim, fun (h : zv_is (.inr 1000)) => (Nat.lt_irrefl 1000 h).elim, fun (h : zv_is (.inr 1000)) => (Nat.lt_irrefl 1000 h).elim, trivial⟩ ⟨fun _ => rfl, fun _ => rfl, fun _ => rfl, trivial⟩ ?_
        exact hK
      · rw [if_pos hc7] at h
        refine zv_ald hB zd113_66 rfl rfl rfl ?_
        refine zv_getr hB zd113_67 rfl ?_
        refine zv_ild hB zd113_70 rfl rfl ?_
        refine zv_con hB zd113_72 rfl ?_
        refine zv_ild hB zd113_73 rfl rfl ?_
        refine zv_shlw hB zd113_75 ?_
        obtain ⟨c8, h⟩ := zi_if h
        refine zv_iast hB zd113_76 rfl rfl (zi_ix_ok c8).1 (zi_ix_ok c8).2 ?_
        refine zv_con hB zd113_77 rfl ?_
        refine zv_ist hB zd113_78 rfl rfl rfl ?_
        obtain ⟨q17, hq17, h⟩ := zi_bind h
        refine l2 _ _ _ _ _ _ _ q17 hq17 ?_
        show good 187 [.inr 0, .inr 1000, .inl x2, .inr 1000, .inl x4, .inr 1000, .inr 1000, .inr 1000] [] [.inr 1, .inr 2, .inl f2] [g0, g1, g2, q17]
        refine zv_iincw hB zd113_187 rfl rfl ?_
        refine zv_goto hB zd113_190 rfl ?_
        exact ih _ _ _ _ _ q h hK
  unfold zf_Matcher_begin_24 at h
  refine zv_ald hB zd113_0 rfl rfl rfl ?_
  refine zv_ald hB zd113_1 rfl rfl rfl ?_
  refine zv_putq hB zd113_2 rfl rfl (by decide) rfl ?_
  refine zv_ald hB zd113_5 rfl rfl rfl ?_
  refine zv_ald hB zd113_6 rfl rfl rfl ?_
  refine zv_putq hB zd113_7 rfl rfl (by decide) rfl ?_
  refine zv_ald hB zd113_10 rfl rfl rfl ?_
  refine zv_con hB zd113_11 rfl ?_
  refine zv_putf hB zd113_12 rfl rfl (fun h => by cases h) rfl ?_
  refine zv_con hB zd113_15 rfl ?_
  refine zv_ist hB zd113_16 rfl rfl rfl ?_
  obtain ⟨q6, hq6, h⟩ := zi_bind h
  refine zv_wk hB (L' := [.inr 0, .inr 1000, .inl x2, .inr 1000, .inl 0, .inr 1000, .inr 1000, .inr 1000]) (F' := [.inr 1, .inr 2, .inl 0]) ⟨fun _ => rfl, fun (h : zv_is (.inr 1000)) => (Nat.lt_irrefl 1000 h).elim, fun _ => rfl, fun (h : zv_is (.inr 1000)) => (Nat.lt_irrefl 1000 h).elim, fun _ => rfl, fun (h : zv_is (.inr 1000)) => (Nat.lt_irrefl 1000 h).elim, fun (h : zv_is (.inr 1000)) => (Nat.lt_irrefl 1000 h).elim, fun (h : zv_is (.inr 1000)) => (Nat.lt_irrefl 1000 h).elim, trivial⟩ ⟨fun _ => rfl, fun _ => rfl, fun _ => rfl, trivial⟩ ?_
  refine l0 _ _ _ _ _ _ q6 hq6 ?_
  show good 56 [.inr 0, .inr 1000, .inl x2, .inr 1000, .inr 1000, .inr 1000, .inr 1000, .inr 1000] [] [.inr 1, .inr 2, .inl 0] [g0, q6, g2, g3]
  refine zv_con hB zd113_56 rfl ?_
  refine zv_ist hB zd113_57 rfl rfl rfl ?_
  obtain ⟨q18, hq18, h⟩ := zi_bind h
  refine l1 _ _ _ _ _ _ q18 hq18 ?_
  show good 193 [.inr 1000, .inr 1000, .inr 1000, .inr 1000, .inr 1000, .inr 1000, .inr 1000, .inr 1000] [] [.inr 1, .inr 2, .inl 0] [g0, q6, g2, q18]
  have hw := Option.some.inj h
  subst hw
  exact hvret _ _ _ _ zd113_193 trivial ⟨rfl, rfl, rfl⟩
/-! Matcher_tightest (II)I -/
-- names: 0 Matcher('arg', 0), 1 (0, 72)(0, 8, 0), 2 Tale(0, 8, 3), 3 (0, 8)(2, 6, 2)
-- fields: f0 = 0.tale_; arrays: g0 = 1, g1 = 3; out: [('ret', None)]
abbrev zy_Matcher_tightest : zNL := (4, [(0, 8), (2, 6)], [(0, 8, 3, 0)], [(0, 8, 0, 1), (2, 6, 2, 3)], [(1, 0, 72, 0), (3, 0, 8, 1)])
theorem zyw_Matcher_tightest : zv_wf zy_Matcher_tightest = true := by decide +kernel
theorem zye_Matcher_tightest : zv_ek2 zy_Matcher_tightest = true := by decide +kernel
def zf_Matcher_tightest_l0_b (x1 : Int) (x2 : Int) (g0 : (Int → Int)) (g1 : (Int → Int)) (rec : Int → Int → Int → Option (Int)) (x3 : Int) (x4 : Int) (x5 : Int) : Option (Int) := if x5 < 8 then (if (zi_and (zi_shr x2 x5) 1) = 0 then (rec x3 x4 (zi_w (x5 + 1))) else (cond (zi_ix (zi_w ((zi_w (x1 * 8)) + x5)) 72) ((zf_Integer_bitCount (g0 (zi_w ((zi_w (x1 * 8)) + x5)))).bind fun r4 => (cond (zi_ix x5 8) ((zf_Integer_bitCount (g1 x5)).bind fun r6 => (if (zi_w ((zi_w (8 * r4)) - r6)) < x4 then (rec x5 (zi_w ((zi_w (8 * r4)) - r6)) (zi_w (x5 + 1))) else (rec x3 x4 (zi_w (x5 + 1))))) none)) none)) else (some x3)
def zf_Matcher_tightest_l0 (x1 : Int) (x2 : Int) (g0 : (Int → Int)) (g1 : (Int → Int)) : Nat → Int → Int → Int → Option (Int)
  | 0, _, _, _ => none
  | n + 1, x3, x4, x5 => zf_Matcher_tightest_l0_b x1 x2 g0 g1 (zf_Matcher_tightest_l0 x1 x2 g0 g1 n) x3 x4 x5
def zf_Matcher_tightest (x1 : Int) (x2 : Int) (g0 : (Int → Int)) (g1 : (Int → Int)) : Option (Int) := (zf_Matcher_tightest_l0 x1 x2 g0 g1 zi_fu 0 200 0).bind fun q8 => (some q8)
theorem zd116_0 : decode zxm116.2.1 0 = .ok (.iconst 0, 1) := by decide +kernel
theorem zd116_1 : decode zxm116.2.1 1 = .ok (.istore_n 3, 1) := by decide +kernel
theorem zd116_2 : decode zxm116.2.1 2 = .ok (.sipush 200, 3) := by decide +kernel
theorem zd116_5 : decode zxm116.2.1 5 = .ok (.istore 4, 2) := by decide +kernel
theorem zd116_7 : decode zxm116.2.1 7 = .ok (.iconst 0, 1) := by decide +kernel
theorem zd116_8 : decode zxm116.2.1 8 = .ok (.istore 5, 2) := by decide +kernel
theorem zd116_10 : decode zxm116.2.1 10 = .ok (.iload 5, 2) := by decide +kernel
theorem zd116_12 : decode zxm116.2.1 12 = .ok (.bipush 8, 2) := by decide +kernel
theorem zd116_14 : decode zxm116.2.1 14 = .ok (.if_icmp .ge 70, 3) := by decide +kernel
theorem zd116_17 : decode zxm116.2.1 17 = .ok (.iload_n 2, 1) := by decide +kernel
theorem zd116_18 : decode zxm116.2.1 18 = .ok (.iload 5, 2) := by decide +kernel
theorem zd116_20 : decode zxm116.2.1 20 = .ok (.ishr, 1) := by decide +kernel
theorem zd116_21 : decode zxm116.2.1 21 = .ok (.iconst 1, 1) := by decide +kernel
theorem zd116_22 : decode zxm116.2.1 22 = .ok (.iand, 1) := by decide +kernel
theorem zd116_23 : decode zxm116.2.1 23 = .ok (.ifCond .eq 55, 3) := by decide +kernel
theorem zd116_26 : decode zxm116.2.1 26 = .ok (.aload_n 0, 1) := by decide +kernel
theorem zd116_27 : decode zxm116.2.1 27 = .ok (.getfield 11, 3) := by decide +kernel
theorem zd116_30 : decode zxm116.2.1 30 = .ok (.iload_n 1, 1) := by decide +kernel
theorem zd116_31 : decode zxm116.2.1 31 = .ok (.bipush 8, 2) := by decide +kernel
theorem zd116_33 : decode zxm116.2.1 33 = .ok (.imul, 1) := by decide +kernel
theorem zd116_34 : decode zxm116.2.1 34 = .ok (.iload 5, 2) := by decide +kernel
theorem zd116_36 : decode zxm116.2.1 36 = .ok (.iadd, 1) := by decide +kernel
theorem zd116_37 : decode zxm116.2.1 37 = .ok (.iaload, 1) := by decide +kernel
theorem zd116_38 : decode zxm116.2.1 38 = .ok (.invokestatic 55, 3) := by decide +kernel
theorem zd116_41 : decode zxm116.2.1 41 = .ok (.istore 6, 2) := by decide +kernel
theorem zd116_43 : decode zxm116.2.1 43 = .ok (.bipush 8, 2) := by decide +kernel
theorem zd116_45 : decode zxm116.2.1 45 = .ok (.iload 6, 2) := by decide +kernel
theorem zd116_47 : decode zxm116.2.1 47 = .ok (.imul, 1) := by decide +kernel
theorem zd116_48 : decode zxm116.2.1 48 = .ok (.aload_n 0, 1) := by decide +kernel
theorem zd116_49 : decode zxm116.2.1 49 = .ok (.getfield 30, 3) := by decide +kernel
theorem zd116_52 : decode zxm116.2.1 52 = .ok (.getfield 52, 3) := by decide +kernel
theorem zd116_55 : decode zxm116.2.1 55 = .ok (.iload 5, 2) := by decide +kernel
theorem zd116_57 : decode zxm116.2.1 57 = .ok (.iaload, 1) := by decide +kernel
theorem zd116_58 : decode zxm116.2.1 58 = .ok (.invokestatic 55, 3) := by decide +kernel
theorem zd116_61 : decode zxm116.2.1 61 = .ok (.isub, 1) := by decide +kernel
theorem zd116_62 : decode zxm116.2.1 62 = .ok (.istore 7, 2) := by decide +kernel
theorem zd116_64 : decode zxm116.2.1 64 = .ok (.iload 7, 2) := by decide +kernel
theorem zd116_66 : decode zxm116.2.1 66 = .ok (.iload 4, 2) := by decide +kernel
theorem zd116_68 : decode zxm116.2.1 68 = .ok (.if_icmp .ge 10, 3) := by decide +kernel
theorem zd116_71 : decode zxm116.2.1 71 = .ok (.iload 7, 2) := by decide +kernel
theorem zd116_73 : decode zxm116.2.1 73 = .ok (.istore 4, 2) := by decide +kernel
theorem zd116_75 : decode zxm116.2.1 75 = .ok (.iload 5, 2) := by decide +kernel
theorem zd116_77 : decode zxm116.2.1 77 = .ok (.istore_n 3, 1) := by decide +kernel
theorem zd116_78 : decode zxm116.2.1 78 = .ok (.iinc 5 1, 3) := by decide +kernel
theorem zd116_81 : decode zxm116.2.1 81 = .ok (.goto (-71), 3) := by decide +kernel
theorem zd116_84 : decode zxm116.2.1 84 = .ok (.iload_n 3, 1) := by decide +kernel
theorem zd116_85 : decode zxm116.2.1 85 = .ok (.ireturn, 1) := by decide +kernel
theorem zt_Matcher_tightest {x1 : Int} {x2 : Int} {g0 : (Int → Int)} {g1 : (Int → Int)} {o : Int} (h : zf_Matcher_tightest x1 x2 g0 g1 = some o) : zv_Fn z_TB z_cl z_KX zy_Matcher_tightest zxm116 (1, 60) [.inr 0, .inl x1, .inl x2] [.inr 2] [g0, g1] (some o) [.inr 2] [g0, g1] := zv_meth (K := (z_KF4, z_KC4, z_KL4, z_KT4, [], [], [], none)) (FT := z_FT) (MT := z_MT) (n := 3) zxp116 (z_ks4 _ (fun _ h => List.mem_cons_of_mem _ h) _ _ _ _ (fun j r h _ => by cases h)) (fun _ _ => zs_KX_p) zyw_Matcher_tightest (fun va F G h => by obtain ⟨rfl, _⟩ := h; rfl) (fun va F G h => by obtain ⟨rfl, _⟩ := h; rfl) rfl fun good va F G hB hret hvret hP => by
  obtain ⟨rfl, rfl, rfl⟩ := hP
  have l0 : ∀ (n : Nat) (x1 : Int) (x2 : Int) (x3 : Int) (x4 : Int) (x5 : Int) (q : Int), zf_Matcher_tightest_l0 x1 x2 g0 g1 n x3 x4 x5 = some q → (good 84 [.inr 1000, .inr 1000, .inr 1000, .inl q, .inr 1000, .inr 1000, .inr 1000, .inr 1000] [] [.inr 2] [g0, g1]) → good 10 [.inr 0, .inl x1, .inl x2, .inl x3, .inl x4, .inl x5, .inr 1000, .inr 1000] [] [.inr 2] [g0, g1] := by
    intro n
    induction n with
    | zero => intro x1 x2 x3 x4 x5 q h; exact absurd (show none = some q from h) (fun h => by cases h)
    | succ n ih =>
      intro x1 x2 x3 x4 x5 q h hK
      replace h : zf_Matcher_tightest_l0_b x1 x2 g0 g1 (zf_Matcher_tightest_l0 x1 x2 g0 g1 n) x3 x4 x5 = some q := h
      unfold zf_Matcher_tightest_l0_b at h
      refine zv_ild hB zd116_10 rfl rfl ?_
      refine zv_con hB zd116_12 rfl ?_
      refine zv_cge hB zd116_14 rfl (fun hc1 => ?_) (fun hc1 => ?_)
      · rw [if_neg (Int.not_lt.mpr hc1)] at h
        have hq := Option.some.inj h
        subst hq
        refine zv_wk hB (L' := [.inr 1000, .inr 1000, .inr 1000, .inl x3, .inr 1000, .inr 1000, .inr 1000, .inr 1000]) (F' := [.inr 2]) ⟨fun (h : zv_is (.inr 1000)) => (Nat.lt_irrefl 1000 h).elim, fun (h : zv_is (.inr 1000)) => (Nat.lt_irrefl 1000 h).elim, fun (h : zv_is (.inr 1000)) => (Nat.lt_irrefl 1000 h).elim, fun _ => rfl, fun (h : zv_is (.inr 1000)) => (Nat.lt_irrefl 1000 h).elim, fun (h : zv_is (.inr 1000)) => (Nat.lt_irrefl 1000 h).elim, fun (h : zv_is (.inr 1000)) => (Nat.lt_irrefl 1000 h).elim, fun (h : zv_is (.inr 1000)) => (Nat.lt_irrefl 1000 h).elim, trivial⟩ ⟨fun _ => rfl, trivial⟩ ?_
        exact hK
      · rw [if_pos hc1] at h
        refine zv_ild hB zd116_17 rfl rfl ?_
        refine zv_ild hB zd116_18 rfl rfl ?_
        refine zv_shrw hB zd116_20 ?_
        refine zv_con hB zd116_21 rfl ?_
        refine zv_andw hB zd116_22 ?_
        refine zv_zeq hB zd116_23 rfl (fun hc2 => ?_) (fun hc2 => ?_)
        · rw [if_pos hc2] at h
          refine zv_iincw hB zd116_78 rfl rfl ?_
          refine zv_goto hB zd116_81 rfl ?_
          exact ih _ _ _ _ _ q h hK
        · rw [if_neg hc2] at h
          refine zv_ald hB zd116_26 rfl rfl rfl ?_
          refine zv_getr hB zd116_27 rfl ?_
          refine zv_ild hB zd116_30 rfl rfl ?_
          refine zv_con hB zd116_31 rfl ?_
          refine zv_mulw hB zd116_33 ?_
          refine zv_ild hB zd116_34 rfl rfl ?_
          refine zv_addw hB zd116_36 ?_
          obtain ⟨c3, h⟩ := zi_if h
          refine zv_iald hB zd116_37 rfl rfl (zi_ix_ok c3).1 (zi_ix_ok c3).2 (fun _ _ => ?_)
          obtain ⟨r4, hr4, h⟩ := zi_bind h
          refine zv_cs hB (zv_emq (va2 := [.inl (g0 (zi_w ((zi_w (x1 * 8)) + x5)))]) (F := [.inr 2]) (F' := [.inr 2]) (G := [g0, g1]) (G' := [g0, g1]) (ρ := []) (φ := []) (ψ := []) [none] [none, none] zyw_Integer_bitCount zyw_Matcher_tightest zye_Matcher_tightest (by decide +kernel) (zt_Integer_bitCount hr4) trivial trivial rfl rfl rfl rfl rfl rfl rfl) zd116_38 zxt102 rfl (by decide) (by decide) rfl ?_
          refine zv_ist hB zd116_41 rfl rfl rfl ?_
          refine zv_con hB zd116_43 rfl ?_
          refine zv_ild hB zd116_45 rfl rfl ?_
          refine zv_mulw hB zd116_47 ?_
          refine zv_ald hB zd116_48 rfl rfl rfl ?_
          refine zv_getq hB zd116_49 rfl rfl rfl ?_
          refine zv_getr hB zd116_52 rfl ?_
          refine zv_ild hB zd116_55 rfl rfl ?_
          obtain ⟨c5, h⟩ := zi_if h
          refine zv_iald hB zd116_57 rfl rfl (zi_ix_ok c5).1 (zi_ix_ok c5).2 (fun _ _ => ?_)
          obtain ⟨r6, hr6, h⟩ := zi_bind h
          refine zv_cs hB (zv_emq (va2 := [.inl (g1 x5)]) (F := [.inr 2]) (F' := [.inr 2]) (G := [g0, g1]) (G' := [g0, g1]) (ρ := []) (φ := []) (ψ := []) [none] [none, none] zyw_Integer_bitCount zyw_Matcher_tightest zye_Matcher_tightest (by decide +kernel) (zt_Integer_bitCount hr6) trivial trivial rfl rfl rfl rfl rfl rfl rfl) zd116_58 zxt102 rfl (by decide) (by decide) rfl ?_
          refine zv_subw hB zd116_61 ?_
          refine zv_ist hB zd116_62 rfl rfl rfl ?_
          refine zv_ild hB zd116_64 rfl rfl ?_
          refine zv_ild hB zd116_66 rfl rfl ?_
          refine zv_cge hB zd116_68 rfl (fun hc7 => ?_) (fun hc7 => ?_)
          · rw [if_neg (Int.not_lt.mpr hc7)] at h
            refine zv_iincw hB zd116_78 rfl rfl ?_
            refine zv_goto hB zd116_81 rfl ?_
            refine zv_wk hB (L' := [.inr 0, .inl x1, .inl x2, .inl x3, .inl x4, .inl (zi_w (x5 + 1)), .inr 1000, .inr 1000]) (F' := [.inr 2]) ⟨fun _ => rfl, fun _ => rfl, fun _ => rfl, fun _ => rfl, fun _ => rfl, fun _ => rfl, fun (h : zv_is (.inr 1000)) => (Nat.lt_irrefl 1000 h).elim, fun (h : zv_is (.inr 1000)) => (Nat.lt_irrefl 1000 h).elim, trivial⟩ ⟨fun _ => rfl, trivial⟩ ?_
            exact ih _ _ _ _ _ q h hK
          · rw [if_pos hc7] at h
            refine zv_ild hB zd116_71 rfl rfl ?_
            refine zv_ist hB zd116_73 rfl rfl rfl ?_
            refine zv_ild hB zd116_75 rfl rfl ?_
            refine zv_ist hB zd116_77 rfl rfl rfl ?_
            refine zv_iincw hB zd116_78 rfl rfl ?_
            refine zv_goto hB zd116_81 rfl ?_
            refine zv_wk hB (L' := [.inr 0, .inl x1, .inl x2, .inl x5, .inl (zi_w ((zi_w (8 * r4)) - r6)), .inl (zi_w (x5 + 1)), .inr 1000, .inr 1000]) (F' := [.inr 2]) ⟨fun _ => rfl, fun _ => rfl, fun _ => rfl, fun _ => rfl, fun _ => rfl, fun _ => rfl, fun (h : zv_is (.inr 1000)) => (Nat.lt_irrefl 1000 h).elim, fun (h : zv_is (.inr 1000)) => (Nat.lt_irrefl 1000 h).elim, trivial⟩ ⟨fun _ => rfl, trivial⟩ ?_
            exact ih _ _ _ _ _ q h hK
  unfold zf_Matcher_tightest at h
  refine zv_con hB zd116_0 rfl ?_
  refine zv_ist hB zd116_1 rfl rfl rfl ?_
  refine zv_con hB zd116_2 rfl ?_
  refine zv_ist hB zd116_5 rfl rfl rfl ?_
  refine zv_con hB zd116_7 rfl ?_
  refine zv_ist hB zd116_8 rfl rfl rfl ?_
  obtain ⟨q8, hq8, h⟩ := zi_bind h
  refine l0 _ _ _ _ _ _ q8 hq8 ?_
  show good 84 [.inr 1000, .inr 1000, .inr 1000, .inl q8, .inr 1000, .inr 1000, .inr 1000, .inr 1000] [] [.inr 2] [g0, g1]
  refine zv_ild hB zd116_84 rfl rfl ?_
  have hw := Option.some.inj h
  subst hw
  exact hret _ _ _ _ _ zd116_85 (by trivial) ⟨rfl, rfl, rfl⟩
end
section
/-! Methods as functions, and that they do what these do. -/
/-! Matcher_narrow (IIII)Z -/
-- names: 0 Matcher('arg', 0), 1 (0, 72)(0, 8, 0), 2 Tale(0, 8, 3), 3 (0, 8)(2, 6, 2), 4 (0, 24)(0, 8, 4)
-- fields: f0 = 0.tale_, f1 = 0.joined_; arrays: g0 = 1, g1 = 3, g2 = 4; out: [('ret', None), ('g', 0)]
abbrev zy_Matcher_narrow : zNL := (5, [(0, 8), (2, 6)], [(0, 8, 3, 0), (0, 8, 4, 1)], [(0, 8, 0, 1), (2, 6, 2, 3)], [(1, 0, 72, 0), (3, 0, 8, 1), (4, 0, 24, 2)])
theorem zyw_Matcher_narrow : zv_wf zy_Matcher_narrow = true := by decide +kernel
theorem zye_Matcher_narrow : zv_ek2 zy_Matcher_narrow = true := by decide +kernel
def zf_Matcher_narrow_l0_b (x2 : Int) (x3 : Int) (x4 : Int) (x5 : Int) (x6 : Int) (g1 : (Int → Int)) (g2 : (Int → Int)) (rec : Int → (Int → Int) → Option ((((Int → Int)) ⊕ (Int × (Int → Int))))) (x7 : Int) (g0 : (Int → Int)) : Option ((((Int → Int)) ⊕ (Int × (Int → Int)))) := if x7 < 8 then (if (zi_and (zi_shr x2 x7) 1) = 0 then (rec (zi_w (x7 + 1)) g0) else (cond (zi_ix (zi_w (x5 + x7)) 72) (cond (zi_ix x3 8) (if (zi_and (zi_shr (g1 x3) x7) 1) = 0 then (if (zi_and (g0 (zi_w (x5 + x7))) (zi_xor (zi_shl 1 x4) (-1))) = 0 then (some (.inr (0, g0))) else (cond (zi_ix (zi_w (x6 + x7)) 72) (rec (zi_w (x7 + 1)) (zv_up g0 (zi_w (x6 + x7)) (zi_and (g0 (zi_w (x5 + x7))) (zi_xor (zi_shl 1 x4) (-1))))) none)) else (cond (zi_ix x4 24) (if (zi_and (zi_and (g0 (zi_w (x5 + x7))) (zi_xor (zi_shl 1 x4) (-1))) (g2 x4)) = 0 then (some (.inr (0, g0))) else (cond (zi_ix (zi_w (x6 + x7)) 72) (rec (zi_w (x7 + 1)) (zv_up g0 (zi_w (x6 + x7)) (zi_and (zi_and (g0 (zi_w (x5 + x7))) (zi_xor (zi_shl 1 x4) (-1))) (g2 x4)))) none)) none)) none) none)) else (some (.inl g0))
def zf_Matcher_narrow_l0 (x2 : Int) (x3 : Int) (x4 : Int) (x5 : Int) (x6 : Int) (g1 : (Int → Int)) (g2 : (Int → Int)) : Nat → Int → (Int → Int) → Option ((((Int → Int)) ⊕ (Int × (Int → Int))))
  | 0, _, _ => none
  | n + 1, x7, g0 => zf_Matcher_narrow_l0_b x2 x3 x4 x5 x6 g1 g2 (zf_Matcher_narrow_l0 x2 x3 x4 x5 x6 g1 g2 n) x7 g0
def zf_Matcher_narrow (x1 : Int) (x2 : Int) (x3 : Int) (x4 : Int) (g0 : (Int → Int)) (g1 : (Int → Int)) (g2 : (Int → Int)) : Option (Int × (Int → Int)) := (zf_Matcher_narrow_l0 x2 x3 x4 (zi_w (x1 * 8)) (zi_w ((zi_w (x1 * 8)) + 8)) g1 g2 zi_fu 0 g0).bind fun q11 => Sum.elim (fun e12 => (some (1, e12))) (fun w13 => some w13) q11
theorem zd117_0 : decode zxm117.2.1 0 = .ok (.iload_n 1, 1) := by decide +kernel
theorem zd117_1 : decode zxm117.2.1 1 = .ok (.bipush 8, 2) := by decide +kernel
theorem zd117_3 : decode zxm117.2.1 3 = .ok (.imul, 1) := by decide +kernel
theorem zd117_4 : decode zxm117.2.1 4 = .ok (.istore 5, 2) := by decide +kernel
theorem zd117_6 : decode zxm117.2.1 6 = .ok (.iload 5, 2) := by decide +kernel
theorem zd117_8 : decode zxm117.2.1 8 = .ok (.bipush 8, 2) := by decide +kernel
theorem zd117_10 : decode zxm117.2.1 10 = .ok (.iadd, 1) := by decide +kernel
theorem zd117_11 : decode zxm117.2.1 11 = .ok (.istore 6, 2) := by decide +kernel
theorem zd117_13 : decode zxm117.2.1 13 = .ok (.iconst 0, 1) := by decide +kernel
theorem zd117_14 : decode zxm117.2.1 14 = .ok (.istore 7, 2) := by decide +kernel
theorem zd117_16 : decode zxm117.2.1 16 = .ok (.iload 7, 2) := by decide +kernel
theorem zd117_18 : decode zxm117.2.1 18 = .ok (.bipush 8, 2) := by decide +kernel
theorem zd117_20 : decode zxm117.2.1 20 = .ok (.if_icmp .ge 85, 3) := by decide +kernel
theorem zd117_23 : decode zxm117.2.1 23 = .ok (.iload_n 2, 1) := by decide +kernel
theorem zd117_24 : decode zxm117.2.1 24 = .ok (.iload 7, 2) := by decide +kernel
theorem zd117_26 : decode zxm117.2.1 26 = .ok (.ishr, 1) := by decide +kernel
theorem zd117_27 : decode zxm117.2.1 27 = .ok (.iconst 1, 1) := by decide +kernel
theorem zd117_28 : decode zxm117.2.1 28 = .ok (.iand, 1) := by decide +kernel
theorem zd117_29 : decode zxm117.2.1 29 = .ok (.ifCond .eq 70, 3) := by decide +kernel
theorem zd117_32 : decode zxm117.2.1 32 = .ok (.aload_n 0, 1) := by decide +kernel
theorem zd117_33 : decode zxm117.2.1 33 = .ok (.getfield 11, 3) := by decide +kernel
theorem zd117_36 : decode zxm117.2.1 36 = .ok (.iload 5, 2) := by decide +kernel
theorem zd117_38 : decode zxm117.2.1 38 = .ok (.iload 7, 2) := by decide +kernel
theorem zd117_40 : decode zxm117.2.1 40 = .ok (.iadd, 1) := by decide +kernel
theorem zd117_41 : decode zxm117.2.1 41 = .ok (.iaload, 1) := by decide +kernel
theorem zd117_42 : decode zxm117.2.1 42 = .ok (.iconst 1, 1) := by decide +kernel
theorem zd117_43 : decode zxm117.2.1 43 = .ok (.iload 4, 2) := by decide +kernel
theorem zd117_45 : decode zxm117.2.1 45 = .ok (.ishl, 1) := by decide +kernel
theorem zd117_46 : decode zxm117.2.1 46 = .ok (.iconst (-1), 1) := by decide +kernel
theorem zd117_47 : decode zxm117.2.1 47 = .ok (.ixor, 1) := by decide +kernel
theorem zd117_48 : decode zxm117.2.1 48 = .ok (.iand, 1) := by decide +kernel
theorem zd117_49 : decode zxm117.2.1 49 = .ok (.istore 8, 2) := by decide +kernel
theorem zd117_51 : decode zxm117.2.1 51 = .ok (.aload_n 0, 1) := by decide +kernel
theorem zd117_52 : decode zxm117.2.1 52 = .ok (.getfield 30, 3) := by decide +kernel
theorem zd117_55 : decode zxm117.2.1 55 = .ok (.getfield 52, 3) := by decide +kernel
theorem zd117_58 : decode zxm117.2.1 58 = .ok (.iload_n 3, 1) := by decide +kernel
theorem zd117_59 : decode zxm117.2.1 59 = .ok (.iaload, 1) := by decide +kernel
theorem zd117_60 : decode zxm117.2.1 60 = .ok (.iload 7, 2) := by decide +kernel
theorem zd117_62 : decode zxm117.2.1 62 = .ok (.ishr, 1) := by decide +kernel
theorem zd117_63 : decode zxm117.2.1 63 = .ok (.iconst 1, 1) := by decide +kernel
theorem zd117_64 : decode zxm117.2.1 64 = .ok (.iand, 1) := by decide +kernel
theorem zd117_65 : decode zxm117.2.1 65 = .ok (.ifCond .eq 15, 3) := by decide +kernel
theorem zd117_68 : decode zxm117.2.1 68 = .ok (.iload 8, 2) := by decide +kernel
theorem zd117_70 : decode zxm117.2.1 70 = .ok (.aload_n 0, 1) := by decide +kernel
theorem zd117_71 : decode zxm117.2.1 71 = .ok (.getfield 34, 3) := by decide +kernel
theorem zd117_74 : decode zxm117.2.1 74 = .ok (.iload 4, 2) := by decide +kernel
theorem zd117_76 : decode zxm117.2.1 76 = .ok (.iaload, 1) := by decide +kernel
theorem zd117_77 : decode zxm117.2.1 77 = .ok (.iand, 1) := by decide +kernel
theorem zd117_78 : decode zxm117.2.1 78 = .ok (.istore 8, 2) := by decide +kernel
theorem zd117_80 : decode zxm117.2.1 80 = .ok (.iload 8, 2) := by decide +kernel
theorem zd117_82 : decode zxm117.2.1 82 = .ok (.ifCond .ne 5, 3) := by decide +kernel
theorem zd117_85 : decode zxm117.2.1 85 = .ok (.iconst 0, 1) := by decide +kernel
theorem zd117_86 : decode zxm117.2.1 86 = .ok (.ireturn, 1) := by decide +kernel
theorem zd117_87 : decode zxm117.2.1 87 = .ok (.aload_n 0, 1) := by decide +kernel
theorem zd117_88 : decode zxm117.2.1 88 = .ok (.getfield 11, 3) := by decide +kernel
theorem zd117_91 : decode zxm117.2.1 91 = .ok (.iload 6, 2) := by decide +kernel
theorem zd117_93 : decode zxm117.2.1 93 = .ok (.iload 7, 2) := by decide +kernel
theorem zd117_95 : decode zxm117.2.1 95 = .ok (.iadd, 1) := by decide +kernel
theorem zd117_96 : decode zxm117.2.1 96 = .ok (.iload 8, 2) := by decide +kernel
theorem zd117_98 : decode zxm117.2.1 98 = .ok (.iastore, 1) := by decide +kernel
theorem zd117_99 : decode zxm117.2.1 99 = .ok (.iinc 7 1, 3) := by decide +kernel
theorem zd117_102 : decode zxm117.2.1 102 = .ok (.goto (-86), 3) := by decide +kernel
theorem zd117_105 : decode zxm117.2.1 105 = .ok (.iconst 1, 1) := by decide +kernel
theorem zd117_106 : decode zxm117.2.1 106 = .ok (.ireturn, 1) := by decide +kernel
theorem zt_Matcher_narrow {x1 : Int} {x2 : Int} {x3 : Int} {x4 : Int} {g0 : (Int → Int)} {g1 : (Int → Int)} {g2 : (Int → Int)} {o : Int × (Int → Int)} (h : zf_Matcher_narrow x1 x2 x3 x4 g0 g1 g2 = some o) : zv_Fn z_TB z_cl z_KX zy_Matcher_narrow zxm117 (0, 0) [.inr 0, .inl x1, .inl x2, .inl x3, .inl x4] [.inr 2, .inr 4] [g0, g1, g2] (some o.1) [.inr 2, .inr 4] [o.2, g1, g2] := zv_meth (K := (z_KF4, z_KC4, z_KL4, z_KT4, [], [], [], none)) (FT := z_FT) (MT := z_MT) (n := 5) zxp117 (z_ks4 _ (fun _ h => List.mem_cons_of_mem _ h) _ _ _ _ (fun j r h _ => by cases h)) (fun _ _ => zs_KX_p) zyw_Matcher_narrow (fun va F G h => by obtain ⟨rfl, _⟩ := h; rfl) (fun va F G h => by obtain ⟨rfl, _⟩ := h; rfl) rfl fun good va F G hB hret hvret hP => by
  obtain ⟨rfl, rfl, rfl⟩ := hP
  have l0 : ∀ (n : Nat) (x2 : Int) (x3 : Int) (x4 : Int) (x5 : Int) (x6 : Int) (x7 : Int) (g0 : (Int → Int)) (q : (((Int → Int)) ⊕ (Int × (Int → Int)))), zf_Matcher_narrow_l0 x2 x3 x4 x5 x6 g1 g2 n x7 g0 = some q → (Sum.elim (fun e : (Int → Int) => good 105 [.inr 1000, .inr 1000, .inr 1000, .inr 1000, .inr 1000, .inr 1000, .inr 1000, .inr 1000, .inr 1000] [] [.inr 2, .inr 4] [e, g1, g2]) (fun w : Int × (Int → Int) => w = o) q) → good 16 [.inr 0, .inr 1000, .inl x2, .inl x3, .inl x4, .inl x5, .inl x6, .inl x7, .inr 1000] [] [.inr 2, .inr 4] [g0, g1, g2] := by
    intro n
    induction n with
    | zero => intro x2 x3 x4 x5 x6 x7 g0 q h; exact absurd (show none = some q from h) (fun h => by cases h)
    | succ n ih =>
      intro x2 x3 x4 x5 x6 x7 g0 q h hK
      replace h : zf_Matcher_narrow_l0_b x2 x3 x4 x5 x6 g1 g2 (zf_Matcher_narrow_l0 x2 x3 x4 x5 x6 g1 g2 n) x7 g0 = some q := h
      unfold zf_Matcher_narrow_l0_b at h
      refine zv_ild hB zd117_16 rfl rfl ?_
      refine zv_con hB zd117_18 rfl ?_
      refine zv_cge hB zd117_20 rfl (fun hc1 => ?_) (fun hc1 => ?_)
      · rw [if_neg (Int.not_lt.mpr hc1)] at h
        have hq := Option.some.inj h
        subst hq
        refine zv_wk hB (L' := [.inr 1000, .inr 1000, .inr 1000, .inr 1000, .inr 1000, .inr 1000, .inr 1000, .inr 1000, .inr 1000]) (F' := [.inr 2, .inr 4]) ⟨fun (h : zv_is (.inr 1000)) => (Nat.lt_irrefl 1000 h).elim, fun (h : zv_is (.inr 1000)) => (Nat.lt_irrefl 1000 h).elim, fun (h : zv_is (.inr 1000)) => (Nat.lt_irrefl 1000 h).elim, fun (h : zv_is (.inr 1000)) => (Nat.lt_irrefl 1000 h).elim, fun (h : zv_is (.inr 1000)) => (Nat.lt_irrefl 1000 h).elim, fun (h : zv_is (.inr 1000)) => (Nat.lt_irrefl 1000 h).elim, fun (h : zv_is (.inr 1000)) => (Nat.lt_irrefl 1000 h).elim, fun (h : zv_is (.inr 1000)) => (Nat.lt_irrefl 1000 h).elim, fun (h : zv_is (.inr 1000)) => (Nat.lt_irrefl 1000 h).elim, trivial⟩ ⟨fun _ => rfl, fun _ => rfl, trivial⟩ ?_
        exact hK
      · rw [if_pos hc1] at h
        refine zv_ild hB zd117_23 rfl rfl ?_
        refine zv_ild hB zd117_24 rfl rfl ?_
        refine zv_shrw hB zd117_26 ?_
        refine zv_con hB zd117_27 rfl ?_
        refine zv_andw hB zd117_28 ?_
        refine zv_zeq hB zd117_29 rfl (fun hc2 => ?_) (fun hc2 => ?_)
        · rw [if_pos hc2] at h
          refine zv_iincw hB zd117_99 rfl rfl ?_
          refine zv_goto hB zd117_102 rfl ?_
          exact ih _ _ _ _ _ _ _ q h hK
        · rw [if_neg hc2] at h
          refine zv_ald hB zd117_32 rfl rfl rfl ?_
          refine zv_getr hB zd117_33 rfl ?_
          refine zv_ild hB zd117_36 rfl rfl ?_
          refine zv_ild hB zd117_38 rfl rfl ?_
          refine zv_addw hB zd117_40 ?_
          obtain ⟨c3, h⟩ := zi_if h
          refine zv_iald hB zd117_41 rfl rfl (zi_ix_ok c3).1 (zi_ix_ok c3).2 (fun _ _ => ?_)
          refine zv_con hB zd117_42 rfl ?_
          refine zv_ild hB zd117_43 rfl rfl ?_
          refine zv_shlw hB zd117_45 ?_
          refine zv_con hB zd117_46 rfl ?_
          refine zv_xorw hB zd117_47 ?_
          refine zv_andw hB zd117_48 ?_
          refine zv_ist hB zd117_49 rfl rfl rfl ?_
          refine zv_ald hB zd117_51 rfl rfl rfl ?_
          refine zv_getq hB zd117_52 rfl rfl rfl ?_
          refine zv_getr hB zd117_55 rfl ?_
          refine zv_ild hB zd117_58 rfl rfl ?_
          obtain ⟨c4, h⟩ := zi_if h
          refine zv_iald hB zd117_59 rfl rfl (zi_ix_ok c4).1 (zi_ix_ok c4).2 (fun _ _ => ?_)
          refine zv_ild hB zd117_60 rfl rfl ?_
          refine zv_shrw hB zd117_62 ?_
          refine zv_con hB zd117_63 rfl ?_
          refine zv_andw hB zd117_64 ?_
          refine zv_zeq hB zd117_65 rfl (fun hc5 => ?_) (fun hc5 => ?_)
          · rw [if_pos hc5] at h
            refine zv_ild hB zd117_80 rfl rfl ?_
            refine zv_zne hB zd117_82 rfl (fun hc6 => ?_) (fun hc6 => ?_)
            · rw [if_neg hc6] at h
              refine zv_ald hB zd117_87 rfl rfl rfl ?_
              refine zv_getr hB zd117_88 rfl ?_
              refine zv_ild hB zd117_91 rfl rfl ?_
              refine zv_ild hB zd117_93 rfl rfl ?_
              refine zv_addw hB zd117_95 ?_
              refine zv_ild hB zd117_96 rfl rfl ?_
              obtain ⟨c7, h⟩ := zi_if h
              refine zv_iast hB zd117_98 rfl rfl (zi_ix_ok c7).1 (zi_ix_ok c7).2 ?_
              refine zv_iincw hB zd117_99 rfl rfl ?_
              refine zv_goto hB zd117_102 rfl ?_
              refine zv_wk hB (L' := [.inr 0, .inr 1000, .inl x2, .inl x3, .inl x4, .inl x5, .inl x6, .inl (zi_w (x7 + 1)), .inr 1000]) (F' := [.inr 2, .inr 4]) ⟨fun _ => rfl, fun (h : zv_is (.inr 1000)) => (Nat.lt_irrefl 1000 h).elim, fun _ => rfl, fun _ => rfl, fun _ => rfl, fun _ => rfl, fun _ => rfl, fun _ => rfl, fun (h : zv_is (.inr 1000)) => (Nat.lt_irrefl 1000 h).elim, trivial⟩ ⟨fun _ => rfl, fun _ => rfl, trivial⟩ ?_
              exact ih _ _ _ _ _ _ _ q h hK
            · rw [if_pos hc6] at h
              refine zv_con hB zd117_85 rfl ?_
              have hw : (0, g0) = o := zi_rk (Option.some.inj h) hK
              subst hw
              exact hret _ _ _ _ _ zd117_86 (by constructor <;> decide) ⟨rfl, rfl, rfl⟩
          · rw [if_neg hc5] at h
            refine zv_ild hB zd117_68 rfl rfl ?_
            refine zv_ald hB zd117_70 rfl rfl rfl ?_
            refine zv_getq hB zd117_71 rfl rfl rfl ?_
            refine zv_ild hB zd117_74 rfl rfl ?_
            obtain ⟨c8, h⟩ := zi_if h
            refine zv_iald hB zd117_76 rfl rfl (zi_ix_ok c8).1 (zi_ix_ok c8).2 (fun _ _ => ?_)
            refine zv_andw hB zd117_77 ?_
            refine zv_ist hB zd117_78 rfl rfl rfl ?_
            refine zv_ild hB zd117_80 rfl rfl ?_
            refine zv_zne hB zd117_82 rfl (fun hc9 => ?_) (fun hc9 => ?_)
            · rw [if_neg hc9] at h
              refine zv_ald hB zd117_87 rfl rfl rfl ?_
              refine zv_getr hB zd117_88 rfl ?_
              refine zv_ild hB zd117_91 rfl rfl ?_
              refine zv_ild hB zd117_93 rfl rfl ?_
              refine zv_addw hB zd117_95 ?_
              refine zv_ild hB zd117_96 rfl rfl ?_
              obtain ⟨c10, h⟩ := zi_if h
              refine zv_iast hB zd117_98 rfl rfl (zi_ix_ok c10).1 (zi_ix_ok c10).2 ?_
              refine zv_iincw hB zd117_99 rfl rfl ?_
              refine zv_goto hB zd117_102 rfl ?_
              refine zv_wk hB (L' := [.inr 0, .inr 1000, .inl x2, .inl x3, .inl x4, .inl x5, .inl x6, .inl (zi_w (x7 + 1)), .inr 1000]) (F' := [.inr 2, .inr 4]) ⟨fun _ => rfl, fun (h : zv_is (.inr 1000)) => (Nat.lt_irrefl 1000 h).elim, fun _ => rfl, fun _ => rfl, fun _ => rfl, fun _ => rfl, fun _ => rfl, fun _ => rfl, fun (h : zv_is (.inr 1000)) => (Nat.lt_irrefl 1000 h).elim, trivial⟩ ⟨fun _ => rfl, fun _ => rfl, trivial⟩ ?_
              exact ih _ _ _ _ _ _ _ q h hK
            · rw [if_pos hc9] at h
              refine zv_con hB zd117_85 rfl ?_
              have hw : (0, g0) = o := zi_rk (Option.some.inj h) hK
              subst hw
              exact hret _ _ _ _ _ zd117_86 (by constructor <;> decide) ⟨rfl, rfl, rfl⟩
  unfold zf_Matcher_narrow at h
  refine zv_ild hB zd117_0 rfl rfl ?_
  refine zv_con hB zd117_1 rfl ?_
  refine zv_mulw hB zd117_3 ?_
  refine zv_ist hB zd117_4 rfl rfl rfl ?_
  refine zv_ild hB zd117_6 rfl rfl ?_
  refine zv_con hB zd117_8 rfl ?_
  refine zv_addw hB zd117_10 ?_
  refine zv_ist hB zd117_11 rfl rfl rfl ?_
  refine zv_con hB zd117_13 rfl ?_
  refine zv_ist hB zd117_14 rfl rfl rfl ?_
  obtain ⟨q11, hq11, h⟩ := zi_bind h
  refine zv_wk hB (L' := [.inr 0, .inr 1000, .inl x2, .inl x3, .inl x4, .inl (zi_w (x1 * 8)), .inl (zi_w ((zi_w (x1 * 8)) + 8)), .inl 0, .inr 1000]) (F' := [.inr 2, .inr 4]) ⟨fun _ => rfl, fun (h : zv_is (.inr 1000)) => (Nat.lt_irrefl 1000 h).elim, fun _ => rfl, fun _ => rfl, fun _ => rfl, fun _ => rfl, fun _ => rfl, fun _ => rfl, fun (h : zv_is (.inr 1000)) => (Nat.lt_irrefl 1000 h).elim, trivial⟩ ⟨fun _ => rfl, fun _ => rfl, trivial⟩ ?_
  refine l0 _ _ _ _ _ _ _ _ q11 hq11 ?_
  rcases q11 with e12 | w13
  · replace h := zi_sl h
    show good 105 [.inr 1000, .inr 1000, .inr 1000, .inr 1000, .inr 1000, .inr 1000, .inr 1000, .inr 1000, .inr 1000] [] [.inr 2, .inr 4] [e12, g1, g2]
    refine zv_con hB zd117_105 rfl ?_
    have hw := Option.some.inj h
    subst hw
    exact hret _ _ _ _ _ zd117_106 (by constructor <;> decide) ⟨rfl, rfl, rfl⟩
  · exact Option.some.inj h
/-! Matcher_besides (I)I -/
-- names: 0 Matcher('arg', 0), 1 (0, 24)(0, 8, 4)
-- fields: f0 = 0.joined_; arrays: g0 = 1; out: [('ret', None)]
abbrev zy_Matcher_besides : zNL := (2, [(0, 8)], [(0, 8, 4, 0)], [], [(1, 0, 24, 0)])
theorem zyw_Matcher_besides : zv_wf zy_Matcher_besides = true := by decide +kernel
theorem zye_Matcher_besides : zv_ek2 zy_Matcher_besides = true := by decide +kernel
def zf_Matcher_besides_l0_b (x1 : Int) (g0 : (Int → Int)) (rec : Int → Int → Option (Int)) (x2 : Int) (x3 : Int) : Option (Int) := if x3 < 24 then (if (zi_and (zi_shr x1 x3) 1) = 0 then (rec x2 (zi_w (x3 + 1))) else (cond (zi_ix x3 24) (rec (zi_or x2 (g0 x3)) (zi_w (x3 + 1))) none)) else (some x2)
def zf_Matcher_besides_l0 (x1 : Int) (g0 : (Int → Int)) : Nat → Int → Int → Option (Int)
  | 0, _, _ => none
  | n + 1, x2, x3 => zf_Matcher_besides_l0_b x1 g0 (zf_Matcher_besides_l0 x1 g0 n) x2 x3
def zf_Matcher_besides (x1 : Int) (g0 : (Int → Int)) : Option (Int) := (zf_Matcher_besides_l0 x1 g0 zi_fu 0 0).bind fun q4 => (some q4)
theorem zd119_0 : decode zxm119.2.1 0 = .ok (.iconst 0, 1) := by decide +kernel
theorem zd119_1 : decode zxm119.2.1 1 = .ok (.istore_n 2, 1) := by decide +kernel
theorem zd119_2 : decode zxm119.2.1 2 = .ok (.iconst 0, 1) := by decide +kernel
theorem zd119_3 : decode zxm119.2.1 3 = .ok (.istore_n 3, 1) := by decide +kernel
theorem zd119_4 : decode zxm119.2.1 4 = .ok (.iload_n 3, 1) := by decide +kernel
theorem zd119_5 : decode zxm119.2.1 5 = .ok (.bipush 24, 2) := by decide +kernel
theorem zd119_7 : decode zxm119.2.1 7 = .ok (.if_icmp .ge 26, 3) := by decide +kernel
theorem zd119_10 : decode zxm119.2.1 10 = .ok (.iload_n 1, 1) := by decide +kernel
theorem zd119_11 : decode zxm119.2.1 11 = .ok (.iload_n 3, 1) := by decide +kernel
theorem zd119_12 : decode zxm119.2.1 12 = .ok (.ishr, 1) := by decide +kernel
theorem zd119_13 : decode zxm119.2.1 13 = .ok (.iconst 1, 1) := by decide +kernel
theorem zd119_14 : decode zxm119.2.1 14 = .ok (.iand, 1) := by decide +kernel
theorem zd119_15 : decode zxm119.2.1 15 = .ok (.ifCond .eq 12, 3) := by decide +kernel
theorem zd119_18 : decode zxm119.2.1 18 = .ok (.iload_n 2, 1) := by decide +kernel
theorem zd119_19 : decode zxm119.2.1 19 = .ok (.aload_n 0, 1) := by decide +kernel
theorem zd119_20 : decode zxm119.2.1 20 = .ok (.getfield 34, 3) := by decide +kernel
theorem zd119_23 : decode zxm119.2.1 23 = .ok (.iload_n 3, 1) := by decide +kernel
theorem zd119_24 : decode zxm119.2.1 24 = .ok (.iaload, 1) := by decide +kernel
theorem zd119_25 : decode zxm119.2.1 25 = .ok (.ior, 1) := by decide +kernel
theorem zd119_26 : decode zxm119.2.1 26 = .ok (.istore_n 2, 1) := by decide +kernel
theorem zd119_27 : decode zxm119.2.1 27 = .ok (.iinc 3 1, 3) := by decide +kernel
theorem zd119_30 : decode zxm119.2.1 30 = .ok (.goto (-26), 3) := by decide +kernel
theorem zd119_33 : decode zxm119.2.1 33 = .ok (.iload_n 2, 1) := by decide +kernel
theorem zd119_34 : decode zxm119.2.1 34 = .ok (.ireturn, 1) := by decide +kernel
theorem zt_Matcher_besides {x1 : Int} {g0 : (Int → Int)} {o : Int} (h : zf_Matcher_besides x1 g0 = some o) : zv_Fn z_TB z_cl z_KX zy_Matcher_besides zxm119 (0, 0) [.inr 0, .inl x1] [.inr 1] [g0] (some o) [.inr 1] [g0] := zv_meth (K := (z_KF4, z_KC4, z_KL4, z_KT4, [], [], [], none)) (FT := z_FT) (MT := z_MT) (n := 2) zxp119 (z_ks4 _ (fun _ h => List.mem_cons_of_mem _ h) _ _ _ _ (fun j r h _ => by cases h)) (fun _ _ => zs_KX_p) zyw_Matcher_besides (fun va F G h => by obtain ⟨rfl, _⟩ := h; rfl) (fun va F G h => by obtain ⟨rfl, _⟩ := h; rfl) rfl fun good va F G hB hret hvret hP => by
  obtain ⟨rfl, rfl, rfl⟩ := hP
  have l0 : ∀ (n : Nat) (x1 : Int) (x2 : Int) (x3 : Int) (q : Int), zf_Matcher_besides_l0 x1 g0 n x2 x3 = some q → (good 33 [.inr 1000, .inr 1000, .inl q, .inr 1000] [] [.inr 1] [g0]) → good 4 [.inr 0, .inl x1, .inl x2, .inl x3] [] [.inr 1] [g0] := by
    intro n
    induction n with
    | zero => intro x1 x2 x3 q h; exact absurd (show none = some q from h) (fun h => by cases h)
    | succ n ih =>
      intro x1 x2 x3 q h hK
      replace h : zf_Matcher_besides_l0_b x1 g0 (zf_Matcher_besides_l0 x1 g0 n) x2 x3 = some q := h
      unfold zf_Matcher_besides_l0_b at h
      refine zv_ild hB zd119_4 rfl rfl ?_
      refine zv_con hB zd119_5 rfl ?_
      refine zv_cge hB zd119_7 rfl (fun hc1 => ?_) (fun hc1 => ?_)
      · rw [if_neg (Int.not_lt.mpr hc1)] at h
        have hq := Option.some.inj h
        subst hq
        refine zv_wk hB (L' := [.inr 1000, .inr 1000, .inl x2, .inr 1000]) (F' := [.inr 1]) ⟨fun (h : zv_is (.inr 1000)) => (Nat.lt_irrefl 1000 h).elim, fun (h : zv_is (.inr 1000)) => (Nat.lt_irrefl 1000 h).elim, fun _ => rfl, fun (h : zv_is (.inr 1000)) => (Nat.lt_irrefl 1000 h).elim, trivial⟩ ⟨fun _ => rfl, trivial⟩ ?_
        exact hK
      · rw [if_pos hc1] at h
        refine zv_ild hB zd119_10 rfl rfl ?_
        refine zv_ild hB zd119_11 rfl rfl ?_
        refine zv_shrw hB zd119_12 ?_
        refine zv_con hB zd119_13 rfl ?_
        refine zv_andw hB zd119_14 ?_
        refine zv_zeq hB zd119_15 rfl (fun hc2 => ?_) (fun hc2 => ?_)
        · rw [if_pos hc2] at h
          refine zv_iincw hB zd119_27 rfl rfl ?_
          refine zv_goto hB zd119_30 rfl ?_
          exact ih _ _ _ q h hK
        · rw [if_neg hc2] at h
          refine zv_ild hB zd119_18 rfl rfl ?_
          refine zv_ald hB zd119_19 rfl rfl rfl ?_
          refine zv_getq hB zd119_20 rfl rfl rfl ?_
          refine zv_ild hB zd119_23 rfl rfl ?_
          obtain ⟨c3, h⟩ := zi_if h
          refine zv_iald hB zd119_24 rfl rfl (zi_ix_ok c3).1 (zi_ix_ok c3).2 (fun _ _ => ?_)
          refine zv_orw hB zd119_25 ?_
          refine zv_ist hB zd119_26 rfl rfl rfl ?_
          refine zv_iincw hB zd119_27 rfl rfl ?_
          refine zv_goto hB zd119_30 rfl ?_
          exact ih _ _ _ q h hK
  unfold zf_Matcher_besides at h
  refine zv_con hB zd119_0 rfl ?_
  refine zv_ist hB zd119_1 rfl rfl rfl ?_
  refine zv_con hB zd119_2 rfl ?_
  refine zv_ist hB zd119_3 rfl rfl rfl ?_
  obtain ⟨q4, hq4, h⟩ := zi_bind h
  refine l0 _ _ _ _ q4 hq4 ?_
  show good 33 [.inr 1000, .inr 1000, .inl q4, .inr 1000] [] [.inr 1] [g0]
  refine zv_ild hB zd119_33 rfl rfl ?_
  have hw := Option.some.inj h
  subst hw
  exact hret _ _ _ _ _ zd119_34 (by trivial) ⟨rfl, rfl, rfl⟩
/-! Matcher_agree (II)Z -/
-- names: 0 Matcher('arg', 0), 1 Tale(0, 8, 3), 2 (0, 8)(1, 6, 2), 3 (0, 72)(0, 8, 0), 4 (0, 24)(0, 8, 4)
-- fields: f0 = 0.tale_, f1 = 0.joined_; arrays: g0 = 2, g1 = 3, g2 = 4; out: [('ret', None), ('g', 1)]
abbrev zy_Matcher_agree : zNL := (5, [(0, 8), (1, 6)], [(0, 8, 3, 0), (0, 8, 4, 1)], [(1, 6, 2, 2), (0, 8, 0, 3)], [(2, 0, 8, 0), (3, 0, 72, 1), (4, 0, 24, 2)])
theorem zyw_Matcher_agree : zv_wf zy_Matcher_agree = true := by decide +kernel
theorem zye_Matcher_agree : zv_ek2 zy_Matcher_agree = true := by decide +kernel
def zf_Matcher_agree_l2_b (x3 : Int) (x7 : Int) (g1 : (Int → Int)) (g2 : (Int → Int)) (rec : Int → Int → Option (Int)) (x8 : Int) (x9 : Int) : Option (Int) := if x9 < 8 then (if (zi_and (zi_shr x7 x9) 1) = 0 then (rec x8 (zi_w (x9 + 1))) else (cond (zi_ix (zi_w (x3 + x9)) 72) ((zf_Matcher_besides (g1 (zi_w (x3 + x9))) g2).bind fun r10 => (rec (zi_and x8 r10) (zi_w (x9 + 1)))) none)) else (some x8)
def zf_Matcher_agree_l2 (x3 : Int) (x7 : Int) (g1 : (Int → Int)) (g2 : (Int → Int)) : Nat → Int → Int → Option (Int)
  | 0, _, _ => none
  | n + 1, x8, x9 => zf_Matcher_agree_l2_b x3 x7 g1 g2 (zf_Matcher_agree_l2 x3 x7 g1 g2 n) x8 x9
def zf_Matcher_agree_l1_b (x2 : Int) (x3 : Int) (g0 : (Int → Int)) (g2 : (Int → Int)) (rec : Int → Int → (Int → Int) → Option (((Int × (Int → Int)) ⊕ (Int × (Int → Int))))) (x4 : Int) (x6 : Int) (g1 : (Int → Int)) : Option (((Int × (Int → Int)) ⊕ (Int × (Int → Int)))) := if x6 < 8 then (if (zi_and (zi_shr x2 x6) 1) = 0 then (cond (zi_ix (zi_w (x3 + x6)) 72) ((zf_Matcher_agree_l2 x3 0 g1 g2 zi_fu (g1 (zi_w (x3 + x6))) 0).bind fun q19 => (if x4 = 0 then (if q19 = (g1 (zi_w (x3 + x6))) then (rec 0 (zi_w (x6 + 1)) (zv_up g1 (zi_w (x3 + x6)) q19)) else (rec 1 (zi_w (x6 + 1)) (zv_up g1 (zi_w (x3 + x6)) q19))) else (rec 1 (zi_w (x6 + 1)) (zv_up g1 (zi_w (x3 + x6)) q19)))) none) else (cond (zi_ix x6 8) (cond (zi_ix (zi_w (x3 + x6)) 72) ((zf_Matcher_agree_l2 x3 (zi_and (g0 x6) x2) g1 g2 zi_fu (g1 (zi_w (x3 + x6))) 0).bind fun q11 => (if (zi_and (g0 x6) x2) = 0 then (if x4 = 0 then (if q11 = (g1 (zi_w (x3 + x6))) then (rec 0 (zi_w (x6 + 1)) (zv_up g1 (zi_w (x3 + x6)) q11)) else (rec 1 (zi_w (x6 + 1)) (zv_up g1 (zi_w (x3 + x6)) q11))) else (rec 1 (zi_w (x6 + 1)) (zv_up g1 (zi_w (x3 + x6)) q11))) else (if q11 = 0 then (some (.inr (0, g1))) else (if x4 = 0 then (if q11 = (g1 (zi_w (x3 + x6))) then (rec 0 (zi_w (x6 + 1)) (zv_up g1 (zi_w (x3 + x6)) q11)) else (rec 1 (zi_w (x6 + 1)) (zv_up g1 (zi_w (x3 + x6)) q11))) else (rec 1 (zi_w (x6 + 1)) (zv_up g1 (zi_w (x3 + x6)) q11)))))) none) none)) else (some (.inl (x4, g1)))
def zf_Matcher_agree_l1 (x2 : Int) (x3 : Int) (g0 : (Int → Int)) (g2 : (Int → Int)) : Nat → Int → Int → (Int → Int) → Option (((Int × (Int → Int)) ⊕ (Int × (Int → Int))))
  | 0, _, _, _ => none
  | n + 1, x4, x6, g1 => zf_Matcher_agree_l1_b x2 x3 g0 g2 (zf_Matcher_agree_l1 x2 x3 g0 g2 n) x4 x6 g1
def zf_Matcher_agree_l0_b (x2 : Int) (x3 : Int) (g0 : (Int → Int)) (g2 : (Int → Int)) (rec : Int → Int → (Int → Int) → Option ((((Int → Int)) ⊕ (Int × (Int → Int))))) (x4 : Int) (x5 : Int) (g1 : (Int → Int)) : Option ((((Int → Int)) ⊕ (Int × (Int → Int)))) := if x5 < 192 then (if x4 = 0 then (some (.inl g1)) else ((zf_Matcher_agree_l1 x2 x3 g0 g2 zi_fu 0 0 g1).bind fun q23 => Sum.elim (fun e24 => (rec e24.1 (zi_w (x5 + 1)) e24.2)) (fun w25 => some (.inr w25)) q23)) else (some (.inl g1))
def zf_Matcher_agree_l0 (x2 : Int) (x3 : Int) (g0 : (Int → Int)) (g2 : (Int → Int)) : Nat → Int → Int → (Int → Int) → Option ((((Int → Int)) ⊕ (Int × (Int → Int))))
  | 0, _, _, _ => none
  | n + 1, x4, x5, g1 => zf_Matcher_agree_l0_b x2 x3 g0 g2 (zf_Matcher_agree_l0 x2 x3 g0 g2 n) x4 x5 g1
def zf_Matcher_agree (x1 : Int) (x2 : Int) (g0 : (Int → Int)) (g1 : (Int → Int)) (g2 : (Int → Int)) : Option (Int × (Int → Int)) := (zf_Matcher_agree_l0 x2 (zi_w (x1 * 8)) g0 g2 zi_fu 1 0 g1).bind fun q26 => Sum.elim (fun e27 => (some (1, e27))) (fun w28 => some w28) q26
theorem zd118_0 : decode zxm118.2.1 0 = .ok (.iload_n 1, 1) := by decide +kernel
theorem zd118_1 : decode zxm118.2.1 1 = .ok (.bipush 8, 2) := by decide +kernel
theorem zd118_3 : decode zxm118.2.1 3 = .ok (.imul, 1) := by decide +kernel
theorem zd118_4 : decode zxm118.2.1 4 = .ok (.istore_n 3, 1) := by decide +kernel
theorem zd118_5 : decode zxm118.2.1 5 = .ok (.iconst 1, 1) := by decide +kernel
theorem zd118_6 : decode zxm118.2.1 6 = .ok (.istore 4, 2) := by decide +kernel
theorem zd118_8 : decode zxm118.2.1 8 = .ok (.iconst 0, 1) := by decide +kernel
theorem zd118_9 : decode zxm118.2.1 9 = .ok (.istore 5, 2) := by decide +kernel
theorem zd118_11 : decode zxm118.2.1 11 = .ok (.iload 5, 2) := by decide +kernel
theorem zd118_13 : decode zxm118.2.1 13 = .ok (.sipush 192, 3) := by decide +kernel
theorem zd118_16 : decode zxm118.2.1 16 = .ok (.if_icmp .ge 164, 3) := by decide +kernel
theorem zd118_19 : decode zxm118.2.1 19 = .ok (.iload 4, 2) := by decide +kernel
theorem zd118_21 : decode zxm118.2.1 21 = .ok (.ifCond .eq 159, 3) := by decide +kernel
theorem zd118_24 : decode zxm118.2.1 24 = .ok (.iconst 0, 1) := by decide +kernel
theorem zd118_25 : decode zxm118.2.1 25 = .ok (.istore 4, 2) := by decide +kernel
theorem zd118_27 : decode zxm118.2.1 27 = .ok (.iconst 0, 1) := by decide +kernel
theorem zd118_28 : decode zxm118.2.1 28 = .ok (.istore 6, 2) := by decide +kernel
theorem zd118_30 : decode zxm118.2.1 30 = .ok (.iload 6, 2) := by decide +kernel
theorem zd118_32 : decode zxm118.2.1 32 = .ok (.bipush 8, 2) := by decide +kernel
theorem zd118_34 : decode zxm118.2.1 34 = .ok (.if_icmp .ge 140, 3) := by decide +kernel
theorem zd118_37 : decode zxm118.2.1 37 = .ok (.iload_n 2, 1) := by decide +kernel
theorem zd118_38 : decode zxm118.2.1 38 = .ok (.iload 6, 2) := by decide +kernel
theorem zd118_40 : decode zxm118.2.1 40 = .ok (.ishr, 1) := by decide +kernel
theorem zd118_41 : decode zxm118.2.1 41 = .ok (.iconst 1, 1) := by decide +kernel
theorem zd118_42 : decode zxm118.2.1 42 = .ok (.iand, 1) := by decide +kernel
theorem zd118_43 : decode zxm118.2.1 43 = .ok (.ifCond .ne 7, 3) := by decide +kernel
theorem zd118_46 : decode zxm118.2.1 46 = .ok (.iconst 0, 1) := by decide +kernel
theorem zd118_47 : decode zxm118.2.1 47 = .ok (.goto 15, 3) := by decide +kernel
theorem zd118_50 : decode zxm118.2.1 50 = .ok (.aload_n 0, 1) := by decide +kernel
theorem zd118_51 : decode zxm118.2.1 51 = .ok (.getfield 30, 3) := by decide +kernel
theorem zd118_54 : decode zxm118.2.1 54 = .ok (.getfield 52, 3) := by decide +kernel
theorem zd118_57 : decode zxm118.2.1 57 = .ok (.iload 6, 2) := by decide +kernel
theorem zd118_59 : decode zxm118.2.1 59 = .ok (.iaload, 1) := by decide +kernel
theorem zd118_60 : decode zxm118.2.1 60 = .ok (.iload_n 2, 1) := by decide +kernel
theorem zd118_61 : decode zxm118.2.1 61 = .ok (.iand, 1) := by decide +kernel
theorem zd118_62 : decode zxm118.2.1 62 = .ok (.istore 7, 2) := by decide +kernel
theorem zd118_64 : decode zxm118.2.1 64 = .ok (.aload_n 0, 1) := by decide +kernel
theorem zd118_65 : decode zxm118.2.1 65 = .ok (.getfield 11, 3) := by decide +kernel
theorem zd118_68 : decode zxm118.2.1 68 = .ok (.iload_n 3, 1) := by decide +kernel
theorem zd118_69 : decode zxm118.2.1 69 = .ok (.iload 6, 2) := by decide +kernel
theorem zd118_71 : decode zxm118.2.1 71 = .ok (.iadd, 1) := by decide +kernel
theorem zd118_72 : decode zxm118.2.1 72 = .ok (.iaload, 1) := by decide +kernel
theorem zd118_73 : decode zxm118.2.1 73 = .ok (.istore 8, 2) := by decide +kernel
theorem zd118_75 : decode zxm118.2.1 75 = .ok (.iconst 0, 1) := by decide +kernel
theorem zd118_76 : decode zxm118.2.1 76 = .ok (.istore 9, 2) := by decide +kernel
theorem zd118_78 : decode zxm118.2.1 78 = .ok (.iload 9, 2) := by decide +kernel
theorem zd118_80 : decode zxm118.2.1 80 = .ok (.bipush 8, 2) := by decide +kernel
theorem zd118_82 : decode zxm118.2.1 82 = .ok (.if_icmp .ge 37, 3) := by decide +kernel
theorem zd118_85 : decode zxm118.2.1 85 = .ok (.iload 7, 2) := by decide +kernel
theorem zd118_87 : decode zxm118.2.1 87 = .ok (.iload 9, 2) := by decide +kernel
theorem zd118_89 : decode zxm118.2.1 89 = .ok (.ishr, 1) := by decide +kernel
theorem zd118_90 : decode zxm118.2.1 90 = .ok (.iconst 1, 1) := by decide +kernel
theorem zd118_91 : decode zxm118.2.1 91 = .ok (.iand, 1) := by decide +kernel
theorem zd118_92 : decode zxm118.2.1 92 = .ok (.ifCond .eq 21, 3) := by decide +kernel
theorem zd118_95 : decode zxm118.2.1 95 = .ok (.iload 8, 2) := by decide +kernel
theorem zd118_97 : decode zxm118.2.1 97 = .ok (.aload_n 0, 1) := by decide +kernel
theorem zd118_98 : decode zxm118.2.1 98 = .ok (.aload_n 0, 1) := by decide +kernel
theorem zd118_99 : decode zxm118.2.1 99 = .ok (.getfield 11, 3) := by decide +kernel
theorem zd118_102 : decode zxm118.2.1 102 = .ok (.iload_n 3, 1) := by decide +kernel
theorem zd118_103 : decode zxm118.2.1 103 = .ok (.iload 9, 2) := by decide +kernel
theorem zd118_105 : decode zxm118.2.1 105 = .ok (.iadd, 1) := by decide +kernel
theorem zd118_106 : decode zxm118.2.1 106 = .ok (.iaload, 1) := by decide +kernel
theorem zd118_107 : decode zxm118.2.1 107 = .ok (.invokevirtual 81, 3) := by decide +kernel
theorem zd118_110 : decode zxm118.2.1 110 = .ok (.iand, 1) := by decide +kernel
theorem zd118_111 : decode zxm118.2.1 111 = .ok (.istore 8, 2) := by decide +kernel
theorem zd118_113 : decode zxm118.2.1 113 = .ok (.iinc 9 1, 3) := by decide +kernel
theorem zd118_116 : decode zxm118.2.1 116 = .ok (.goto (-38), 3) := by decide +kernel
theorem zd118_119 : decode zxm118.2.1 119 = .ok (.iload 7, 2) := by decide +kernel
theorem zd118_121 : decode zxm118.2.1 121 = .ok (.ifCond .eq 10, 3) := by decide +kernel
theorem zd118_124 : decode zxm118.2.1 124 = .ok (.iload 8, 2) := by decide +kernel
theorem zd118_126 : decode zxm118.2.1 126 = .ok (.ifCond .ne 5, 3) := by decide +kernel
theorem zd118_129 : decode zxm118.2.1 129 = .ok (.iconst 0, 1) := by decide +kernel
theorem zd118_130 : decode zxm118.2.1 130 = .ok (.ireturn, 1) := by decide +kernel
theorem zd118_131 : decode zxm118.2.1 131 = .ok (.iload 4, 2) := by decide +kernel
theorem zd118_133 : decode zxm118.2.1 133 = .ok (.ifCond .ne 17, 3) := by decide +kernel
theorem zd118_136 : decode zxm118.2.1 136 = .ok (.iload 8, 2) := by decide +kernel
theorem zd118_138 : decode zxm118.2.1 138 = .ok (.aload_n 0, 1) := by decide +kernel
theorem zd118_139 : decode zxm118.2.1 139 = .ok (.getfield 11, 3) := by decide +kernel
theorem zd118_142 : decode zxm118.2.1 142 = .ok (.iload_n 3, 1) := by decide +kernel
theorem zd118_143 : decode zxm118.2.1 143 = .ok (.iload 6, 2) := by decide +kernel
theorem zd118_145 : decode zxm118.2.1 145 = .ok (.iadd, 1) := by decide +kernel
theorem zd118_146 : decode zxm118.2.1 146 = .ok (.iaload, 1) := by decide +kernel
theorem zd118_147 : decode zxm118.2.1 147 = .ok (.if_icmp .eq 7, 3) := by decide +kernel
theorem zd118_150 : decode zxm118.2.1 150 = .ok (.iconst 1, 1) := by decide +kernel
theorem zd118_151 : decode zxm118.2.1 151 = .ok (.goto 4, 3) := by decide +kernel
theorem zd118_154 : decode zxm118.2.1 154 = .ok (.iconst 0, 1) := by decide +kernel
theorem zd118_155 : decode zxm118.2.1 155 = .ok (.istore 4, 2) := by decide +kernel
theorem zd118_157 : decode zxm118.2.1 157 = .ok (.aload_n 0, 1) := by decide +kernel
theorem zd118_158 : decode zxm118.2.1 158 = .ok (.getfield 11, 3) := by decide +kernel
theorem zd118_161 : decode zxm118.2.1 161 = .ok (.iload_n 3, 1) := by decide +kernel
theorem zd118_162 : decode zxm118.2.1 162 = .ok (.iload 6, 2) := by decide +kernel
theorem zd118_164 : decode zxm118.2.1 164 = .ok (.iadd, 1) := by decide +kernel
theorem zd118_165 : decode zxm118.2.1 165 = .ok (.iload 8, 2) := by decide +kernel
theorem zd118_167 : decode zxm118.2.1 167 = .ok (.iastore, 1) := by decide +kernel
theorem zd118_168 : decode zxm118.2.1 168 = .ok (.iinc 6 1, 3) := by decide +kernel
theorem zd118_171 : decode zxm118.2.1 171 = .ok (.goto (-141), 3) := by decide +kernel
theorem zd118_174 : decode zxm118.2.1 174 = .ok (.iinc 5 1, 3) := by decide +kernel
theorem zd118_177 : decode zxm118.2.1 177 = .ok (.goto (-166), 3) := by decide +kernel
theorem zd118_180 : decode zxm118.2.1 180 = .ok (.iconst 1, 1) := by decide +kernel
theorem zd118_181 : decode zxm118.2.1 181 = .ok (.ireturn, 1) := by decide +kernel
theorem zt_Matcher_agree {x1 : Int} {x2 : Int} {g0 : (Int → Int)} {g1 : (Int → Int)} {g2 : (Int → Int)} {o : Int × (Int → Int)} (h : zf_Matcher_agree x1 x2 g0 g1 g2 = some o) : zv_Fn z_TB z_cl z_KX zy_Matcher_agree zxm118 (1, 60) [.inr 0, .inl x1, .inl x2] [.inr 1, .inr 4] [g0, g1, g2] (some o.1) [.inr 1, .inr 4] [g0, o.2, g2] := zv_meth (K := (z_KF4, z_KC4, z_KL4, z_KT4, [], [], [], none)) (FT := z_FT) (MT := z_MT) (n := 3) zxp118 (z_ks4 _ (fun _ h => List.mem_cons_of_mem _ h) _ _ _ _ (fun j r h _ => by cases h)) (fun _ _ => zs_KX_p) zyw_Matcher_agree (fun va F G h => by obtain ⟨rfl, _⟩ := h; rfl) (fun va F G h => by obtain ⟨rfl, _⟩ := h; rfl) rfl fun good va F G hB hret hvret hP => by
  obtain ⟨rfl, rfl, rfl⟩ := hP
  have l2 : ∀ (n : Nat) (x2 : Int) (x3 : Int) (x4 : Int) (x5 : Int) (x6 : Int) (x7 : Int) (x8 : Int) (x9 : Int) (g1 : (Int → Int)) (q : Int), zf_Matcher_agree_l2 x3 x7 g1 g2 n x8 x9 = some q → (good 119 [.inr 0, .inr 1000, .inl x2, .inl x3, .inl x4, .inl x5, .inl x6, .inl x7, .inl q, .inr 1000] [] [.inr 1, .inr 4] [g0, g1, g2]) → good 78 [.inr 0, .inr 1000, .inl x2, .inl x3, .inl x4, .inl x5, .inl x6, .inl x7, .inl x8, .inl x9] [] [.inr 1, .inr 4] [g0, g1, g2] := by
    intro n
    induction n with
    | zero => intro x2 x3 x4 x5 x6 x7 x8 x9 g1 q h; exact absurd (show none = some q from h) (fun h => by cases h)
    | succ n ih =>
      intro x2 x3 x4 x5 x6 x7 x8 x9 g1 q h hK
      replace h : zf_Matcher_agree_l2_b x3 x7 g1 g2 (zf_Matcher_agree_l2 x3 x7 g1 g2 n) x8 x9 = some q := h
      unfold zf_Matcher_agree_l2_b at h
      refine zv_ild hB zd118_78 rfl rfl ?_
      refine zv_con hB zd118_80 rfl ?_
      refine zv_cge hB zd118_82 rfl (fun hc7 => ?_) (fun hc7 => ?_)
      · rw [if_neg (Int.not_lt.mpr hc7)] at h
        have hq := Option.some.inj h
        subst hq
        refine zv_wk hB (L' := [.inr 0, .inr 1000, .inl x2, .inl x3, .inl x4, .inl x5, .inl x6, .inl x7, .inl x8, .inr 1000]) (F' := [.inr 1, .inr 4]) ⟨fun _ => rfl, fun (h : zv_is (.inr 1000)) => (Nat.lt_irrefl 1000 h).elim, fun _ => rfl, fun _ => rfl, fun _ => rfl, fun _ => rfl, fun _ => rfl, fun _ => rfl, fun _ => rfl, fun (h : zv_is (.inr 1000)) => (Nat.lt_irrefl 1000 h).elim, trivial⟩ ⟨fun _ => rfl, fun _ => rfl, trivial⟩ ?_
        exact hK
      · rw [if_pos hc7] at h
        refine zv_ild hB zd118_85 rfl rfl ?_
        refine zv_ild hB zd118_87 rfl rfl ?_
        refine zv_shrw hB zd118_89 ?_
        refine zv_con hB zd118_90 rfl ?_
        refine zv_andw hB zd118_91 ?_
        refine zv_zeq hB zd118_92 rfl (fun hc8 => ?_) (fun hc8 => ?_)
        · rw [if_pos hc8] at h
          refine zv_iincw hB zd118_113 rfl rfl ?_
          refine zv_goto hB zd118_116 rfl ?_
          exact ih _ _ _ _ _ _ _ _ _ q h hK
        · rw [if_neg hc8] at h
          refine zv_ild hB zd118_95 rfl rfl ?_
          refine zv_ald hB zd118_97 rfl rfl rfl ?_
          refine zv_ald hB zd118_98 rfl rfl rfl ?_
          refine zv_getr hB zd118_99 rfl ?_
          refine zv_ild hB zd118_102 rfl rfl ?_
          refine zv_ild hB zd118_103 rfl rfl ?_
          refine zv_addw hB zd118_105 ?_
          obtain ⟨c9, h⟩ := zi_if h
          refine zv_iald hB zd118_106 rfl rfl (zi_ix_ok c9).1 (zi_ix_ok c9).2 (fun _ _ => ?_)
          obtain ⟨r10, hr10, h⟩ := zi_bind h
          refine zv_cv hB (zv_emq (va2 := [.inr 0, .inl (g1 (zi_w (x3 + x9)))]) (F := [.inr 1, .inr 4]) (F' := [.inr 1, .inr 4]) (G := [g0, g1, g2]) (G' := [g0, g1, g2]) (ρ := [0, 4]) (φ := [1]) (ψ := [2]) [none, some 0] [none, none, some 0] zyw_Matcher_besides zyw_Matcher_agree zye_Matcher_agree (by decide +kernel) (zt_Matcher_besides hr10) ⟨⟨_, rfl, fun _ => rfl⟩, trivial⟩ ⟨rfl, trivial⟩ rfl rfl rfl rfl rfl rfl rfl) zd118_107 zxt119 rfl (by decide) (by decide) rfl ?_
          refine zv_andw hB zd118_110 ?_
          refine zv_ist hB zd118_111 rfl rfl rfl ?_
          refine zv_iincw hB zd118_113 rfl rfl ?_
          refine zv_goto hB zd118_116 rfl ?_
          exact ih _ _ _ _ _ _ _ _ _ q h hK
  have l1 : ∀ (n : Nat) (x2 : Int) (x3 : Int) (x4 : Int) (x5 : Int) (x6 : Int) (g1 : (Int → Int)) (q : ((Int × (Int → Int)) ⊕ (Int × (Int → Int)))), zf_Matcher_agree_l1 x2 x3 g0 g2 n x4 x6 g1 = some q → (Sum.elim (fun e : Int × (Int → Int) => good 174 [.inr 0, .inr 1000, .inl x2, .inl x3, .inl e.1, .inl x5, .inr 1000, .inr 1000, .inr 1000, .inr 1000] [] [.inr 1, .inr 4] [g0, e.2, g2]) (fun w : Int × (Int → Int) => w = o) q) → good 30 [.inr 0, .inr 1000, .inl x2, .inl x3, .inl x4, .inl x5, .inl x6, .inr 1000, .inr 1000, .inr 1000] [] [.inr 1, .inr 4] [g0, g1, g2] := by
    intro n
    induction n with
    | zero => intro x2 x3 x4 x5 x6 g1 q h; exact absurd (show none = some q from h) (fun h => by cases h)
    | succ n ih =>
      intro x2 x3 x4 x5 x6 g1 q h hK
      replace h : zf_Matcher_agree_l1_b x2 x3 g0 g2 (zf_Matcher_agree_l1 x2 x3 g0 g2 n) x4 x6 g1 = some q := h
      unfold zf_Matcher_agree_l1_b at h
      refine zv_ild hB zd118_30 rfl rfl ?_
      refine zv_con hB zd118_32 rfl ?_
      refine zv_cge hB zd118_34 rfl (fun hc3 => ?_) (fun hc3 => ?_)
      · rw [if_neg (Int.not_lt.mpr hc3)] at h
        have hq := Option.some.inj h
        subst hq
        refine zv_wk hB (L' := [.inr 0, .inr 1000, .inl x2, .inl x3, .inl x4, .inl x5, .inr 1000, .inr 1000, .inr 1000, .inr 1000]) (F' := [.inr 1, .inr 4]) ⟨fun _ => rfl, fun (h : zv_is (.inr 1000)) => (Nat.lt_irrefl 1000 h).elim, fun _ => rfl, fun _ => rfl, fun _ => rfl, fun _ => rfl, fun (h : zv_is (.inr 1000)) => (Nat.lt_irrefl 1000 h).elim, fun (h : zv_is (.inr 1000)) => (Nat.lt_irrefl 1000 h).elim, fun (h : zv_is (.inr 1000)) => (Nat.lt_irrefl 1000 h).elim, fun (h : zv_is (.inr 1000)) => (Nat.lt_irrefl 1000 h).elim, trivial⟩ ⟨fun _ => rfl, fun _ => rfl, trivial⟩ ?_
        exact hK
      · rw [if_pos hc3] at h
        refine zv_ild hB zd118_37 rfl rfl ?_
        refine zv_ild hB zd118_38 rfl rfl ?_
        refine zv_shrw hB zd118_40 ?_
        refine zv_con hB zd118_41 rfl ?_
        refine zv_andw hB zd118_42 ?_
        refine zv_zne hB zd118_43 rfl (fun hc4 => ?_) (fun hc4 => ?_)
        · rw [if_neg hc4] at h
          refine zv_ald hB zd118_50 rfl rfl rfl ?_
          refine zv_getq hB zd118_51 rfl rfl rfl ?_
          refine zv_getr hB zd118_54 rfl ?_
          refine zv_ild hB zd118_57 rfl rfl ?_
          obtain ⟨c5, h⟩ := zi_if h
          refine zv_iald hB zd118_59 rfl rfl (zi_ix_ok c5).1 (zi_ix_ok c5).2 (fun _ _ => ?_)
          refine zv_ild hB zd118_60 rfl rfl ?_
          refine zv_andw hB zd118_61 ?_
          refine zv_ist hB zd118_62 rfl rfl rfl ?_
          refine zv_ald hB zd118_64 rfl rfl rfl ?_
          refine zv_getr hB zd118_65 rfl ?_
          refine zv_ild hB zd118_68 rfl rfl ?_
          refine zv_ild hB zd118_69 rfl rfl ?_
          refine zv_addw hB zd118_71 ?_
          obtain ⟨c6, h⟩ := zi_if h
          refine zv_iald hB zd118_72 rfl rfl (zi_ix_ok c6).1 (zi_ix_ok c6).2 (fun _ _ => ?_)
          refine zv_ist hB zd118_73 rfl rfl rfl ?_
          refine zv_con hB zd118_75 rfl ?_
          refine zv_ist hB zd118_76 rfl rfl rfl ?_
          obtain ⟨q11, hq11, h⟩ := zi_bind h
          refine l2 _ _ _ _ _ _ _ _ _ _ q11 hq11 ?_
          show good 119 [.inr 0, .inr 1000, .inl x2, .inl x3, .inl x4, .inl x5, .inl x6, .inl (zi_and (g0 x6) x2), .inl q11, .inr 1000] [] [.inr 1, .inr 4] [g0, g1, g2]
          refine zv_ild hB zd118_119 rfl rfl ?_
          refine zv_zeq hB zd118_121 rfl (fun hc12 => ?_) (fun hc12 => ?_)
          · rw [if_pos hc12] at h
            refine zv_ild hB zd118_131 rfl rfl ?_
            refine zv_zne hB zd118_133 rfl (fun hc13 => ?_) (fun hc13 => ?_)
            · rw [if_neg hc13] at h
              refine zv_con hB zd118_150 rfl ?_
              refine zv_goto hB zd118_151 rfl ?_
              refine zv_ist hB zd118_155 rfl rfl rfl ?_
              refine zv_ald hB zd118_157 rfl rfl rfl ?_
              refine zv_getr hB zd118_158 rfl ?_
              refine zv_ild hB zd118_161 rfl rfl ?_
              refine zv_ild hB zd118_162 rfl rfl ?_
              refine zv_addw hB zd118_164 ?_
              refine zv_ild hB zd118_165 rfl rfl ?_
              refine zv_iast hB zd118_167 rfl rfl (zi_ix_ok c6).1 (zi_ix_ok c6).2 ?_
              refine zv_iincw hB zd118_168 rfl rfl ?_
              refine zv_goto hB zd118_171 rfl ?_
              refine zv_wk hB (L' := [.inr 0, .inr 1000, .inl x2, .inl x3, .inl 1, .inl x5, .inl (zi_w (x6 + 1)), .inr 1000, .inr 1000, .inr 1000]) (F' := [.inr 1, .inr 4]) ⟨fun _ => rfl, fun (h : zv_is (.inr 1000)) => (Nat.lt_irrefl 1000 h).elim, fun _ => rfl, fun _ => rfl, fun _ => rfl, fun _ => rfl, fun _ => rfl, fun (h : zv_is (.inr 1000)) => (Nat.lt_irrefl 1000 h).elim, fun (h : zv_is (.inr 1000)) => (Nat.lt_irrefl 1000 h).elim, fun (h : zv_is (.inr 1000)) => (Nat.lt_irrefl 1000 h).elim, trivial⟩ ⟨fun _ => rfl, fun _ => rfl, trivial⟩ ?_
              exact ih _ _ _ _ _ _ q h hK
            · rw [if_pos hc13] at h
              refine zv_ild hB zd118_136 rfl rfl ?_
              refine zv_ald hB zd118_138 rfl rfl rfl ?_
              refine zv_getr hB zd118_139 rfl ?_
              refine zv_ild hB zd118_142 rfl rfl ?_
              refine zv_ild hB zd118_143 rfl rfl ?_
              refine zv_addw hB zd118_145 ?_
              refine zv_iald hB zd118_146 rfl rfl (zi_ix_ok c6).1 (zi_ix_ok c6).2 (fun _ _ => ?_)
              refine zv_ceq hB zd118_147 rfl (fun hc14 => ?_) (fun hc14 => ?_)
              · rw [if_pos hc14] at h
                refine zv_con hB zd118_154 rfl ?_
                refine zv_ist hB zd118_155 rfl rfl rfl ?_
                refine zv_ald hB zd118_157 rfl rfl rfl ?_
                refine zv_getr hB zd118_158 rfl ?_
                refine zv_ild hB zd118_161 rfl rfl ?_
                refine zv_ild hB zd118_162 rfl rfl ?_
                refine zv_addw hB zd118_164 ?_
                refine zv_ild hB zd118_165 rfl rfl ?_
                refine zv_iast hB zd118_167 rfl rfl (zi_ix_ok c6).1 (zi_ix_ok c6).2 ?_
                refine zv_iincw hB zd118_168 rfl rfl ?_
                refine zv_goto hB zd118_171 rfl ?_
                refine zv_wk hB (L' := [.inr 0, .inr 1000, .inl x2, .inl x3, .inl 0, .inl x5, .inl (zi_w (x6 + 1)), .inr 1000, .inr 1000, .inr 1000]) (F' := [.inr 1, .inr 4]) ⟨fun _ => rfl, fun (h : zv_is (.inr 1000)) => (Nat.lt_irrefl 1000 h).elim, fun _ => rfl, fun _ => rfl, fun _ => rfl, fun _ => rfl, fun _ => rfl, fun (h : zv_is (.inr 1000)) => (Nat.lt_irrefl 1000 h).elim, fun (h : zv_is (.inr 1000)) => (Nat.lt_irrefl 1000 h).elim, fun (h : zv_is (.inr 1000)) => (Nat.lt_irrefl 1000 h).elim, trivial⟩ ⟨fun _ => rfl, fun _ => rfl, trivial⟩ ?_
                exact ih _ _ _ _ _ _ q h hK
              · rw [if_neg hc14] at h
                refine zv_con hB zd118_150 rfl ?_
                refine zv_goto hB zd118_151 rfl ?_
                refine zv_ist hB zd118_155 rfl rfl rfl ?_
                refine zv_ald hB zd118_157 rfl rfl rfl ?_
                refine zv_getr hB zd118_158 rfl ?_
                refine zv_ild hB zd118_161 rfl rfl ?_
                refine zv_ild hB zd118_162 rfl rfl ?_
                refine zv_addw hB zd118_164 ?_
                refine zv_ild hB zd118_165 rfl rfl ?_
                refine zv_iast hB zd118_167 rfl rfl (zi_ix_ok c6).1 (zi_ix_ok c6).2 ?_
                refine zv_iincw hB zd118_168 rfl rfl ?_
                refine zv_goto hB zd118_171 rfl ?_
                refine zv_wk hB (L' := [.inr 0, .inr 1000, .inl x2, .inl x3, .inl 1, .inl x5, .inl (zi_w (x6 + 1)), .inr 1000, .inr 1000, .inr 1000]) (F' := [.inr 1, .inr 4]) ⟨fun _ => rfl, fun (h : zv_is (.inr 1000)) => (Nat.lt_irrefl 1000 h).elim, fun _ => rfl, fun _ => rfl, fun _ => rfl, fun _ => rfl, fun _ => rfl, fun (h : zv_is (.inr 1000)) => (Nat.lt_irrefl 1000 h).elim, fun (h : zv_is (.inr 1000)) => (Nat.lt_irrefl 1000 h).elim, fun (h : zv_is (.inr 1000)) => (Nat.lt_irrefl 1000 h).elim, trivial⟩ ⟨fun _ => rfl, fun _ => rfl, trivial⟩ ?_
                exact ih _ _ _ _ _ _ q h hK
          · rw [if_neg hc12] at h
            refine zv_ild hB zd118_124 rfl rfl ?_
            refine zv_zne hB zd118_126 rfl (fun hc15 => ?_) (fun hc15 => ?_)
            · rw [if_neg hc15] at h
              refine zv_ild hB zd118_131 rfl rfl ?_
              refine zv_zne hB zd118_133 rfl (fun hc16 => ?_) (fun hc16 => ?_)
              · rw [if_neg hc16] at h
                refine zv_con hB zd118_150 rfl ?_
                refine zv_goto hB zd118_151 rfl ?_
                refine zv_ist hB zd118_155 rfl rfl rfl ?_
                refine zv_ald hB zd118_157 rfl rfl rfl ?_
                refine zv_getr hB zd118_158 rfl ?_
                refine zv_ild hB zd118_161 rfl rfl ?_
                refine zv_ild hB zd118_162 rfl rfl ?_
                refine zv_addw hB zd118_164 ?_
                refine zv_ild hB zd118_165 rfl rfl ?_
                refine zv_iast hB zd118_167 rfl rfl (zi_ix_ok c6).1 (zi_ix_ok c6).2 ?_
                refine zv_iincw hB zd118_168 rfl rfl ?_
                refine zv_goto hB zd118_171 rfl ?_
                refine zv_wk hB (L' := [.inr 0, .inr 1000, .inl x2, .inl x3, .inl 1, .inl x5, .inl (zi_w (x6 + 1)), .inr 1000, .inr 1000, .inr 1000]) (F' := [.inr 1, .inr 4]) ⟨fun _ => rfl, fun (h : zv_is (.inr 1000)) => (Nat.lt_irrefl 1000 h).elim, fun _ => rfl, fun _ => rfl, fun _ => rfl, fun _ => rfl, fun _ => rfl, fun (h : zv_is (.inr 1000)) => (Nat.lt_irrefl 1000 h).elim, fun (h : zv_is (.inr 1000)) => (Nat.lt_irrefl 1000 h).elim, fun (h : zv_is (.inr 1000)) => (Nat.lt_irrefl 1000 h).elim, trivial⟩ ⟨fun _ => rfl, fun _ => rfl, trivial⟩ ?_
                exact ih _ _ _ _ _ _ q h hK
              · rw [if_pos hc16] at h
                refine zv_ild hB zd118_136 rfl rfl ?_
                refine zv_ald hB zd118_138 rfl rfl rfl ?_
                refine zv_getr hB zd118_139 rfl ?_
                refine zv_ild hB zd118_142 rfl rfl ?_
                refine zv_ild hB zd118_143 rfl rfl ?_
                refine zv_addw hB zd118_145 ?_
                refine zv_iald hB zd118_146 rfl rfl (zi_ix_ok c6).1 (zi_ix_ok c6).2 (fun _ _ => ?_)
                refine zv_ceq hB zd118_147 rfl (fun hc17 => ?_) (fun hc17 => ?_)
                · rw [if_pos hc17] at h
                  refine zv_con hB zd118_154 rfl ?_
                  refine zv_ist hB zd118_155 rfl rfl rfl ?_
                  refine zv_ald hB zd118_157 rfl rfl rfl ?_
                  refine zv_getr hB zd118_158 rfl ?_
                  refine zv_ild hB zd118_161 rfl rfl ?_
                  refine zv_ild hB zd118_162 rfl rfl ?_
                  refine zv_addw hB zd118_164 ?_
                  refine zv_ild hB zd118_165 rfl rfl ?_
                  refine zv_iast hB zd118_167 rfl rfl (zi_ix_ok c6).1 (zi_ix_ok c6).2 ?_
                  refine zv_iincw hB zd118_168 rfl rfl ?_
                  refine zv_goto hB zd118_171 rfl ?_
                  refine zv_wk hB (L' := [.inr 0, .inr 1000, .inl x2, .inl x3, .inl 0, .inl x5, .inl (zi_w (x6 + 1)), .inr 1000, .inr 1000, .inr 1000]) (F' := [.inr 1, .inr 4]) ⟨fun _ => rfl, fun (h : zv_is (.inr 1000)) => (Nat.lt_irrefl 1000 h).elim, fun _ => rfl, fun _ => rfl, fun _ => rfl, fun _ => rfl, fun _ => rfl, fun (h : zv_is (.inr 1000)) => (Nat.lt_irrefl 1000 h).elim, fun (h : zv_is (.inr 1000)) => (Nat.lt_irrefl 1000 h).elim, fun (h : zv_is (.inr 1000)) => (Nat.lt_irrefl 1000 h).elim, trivial⟩ ⟨fun _ => rfl, fun _ => rfl, trivial⟩ ?_
                  exact ih _ _ _ _ _ _ q h hK
                · rw [if_neg hc17] at h
                  refine zv_con hB zd118_150 rfl ?_
                  refine zv_goto hB zd118_151 rfl ?_
                  refine zv_ist hB zd118_155 rfl rfl rfl ?_
                  refine zv_ald hB zd118_157 rfl rfl rfl ?_
                  refine zv_getr hB zd118_158 rfl ?_
                  refine zv_ild hB zd118_161 rfl rfl ?_
                  refine zv_ild hB zd118_162 rfl rfl ?_
                  refine zv_addw hB zd118_164 ?_
                  refine zv_ild hB zd118_165 rfl rfl ?_
                  refine zv_iast hB zd118_167 rfl rfl (zi_ix_ok c6).1 (zi_ix_ok c6).2 ?_
                  refine zv_iincw hB zd118_168 rfl rfl ?_
                  refine zv_goto hB zd118_171 rfl ?_
                  refine zv_wk hB (L' := [.inr 0, .inr 1000, .inl x2, .inl x3, .inl 1, .inl x5, .inl (zi_w (x6 + 1)), .inr 1000, .inr 1000, .inr 1000]) (F' := [.inr 1, .inr 4]) ⟨fun _ => rfl, fun (h : zv_is (.inr 1000)) => (Nat.lt_irrefl 1000 h).elim, fun _ => rfl, fun _ => rfl, fun _ => rfl, fun _ => rfl, fun _ => rfl, fun (h : zv_is (.inr 1000)) => (Nat.lt_irrefl 1000 h).elim, fun (h : zv_is (.inr 1000)) => (Nat.lt_irrefl 1000 h).elim, fun (h : zv_is (.inr 1000)) => (Nat.lt_irrefl 1000 h).elim, trivial⟩ ⟨fun _ => rfl, fun _ => rfl, trivial⟩ ?_
                  exact ih _ _ _ _ _ _ q h hK
            · rw [if_pos hc15] at h
              refine zv_con hB zd118_129 rfl ?_
              have hw : (0, g1) = o := zi_rk (Option.some.inj h) hK
              subst hw
              exact hret _ _ _ _ _ zd118_130 (by constructor <;> decide) ⟨rfl, rfl, rfl⟩
        · rw [if_pos hc4] at h
          refine zv_con hB zd118_46 rfl ?_
          refine zv_goto hB zd118_47 rfl ?_
          refine zv_ist hB zd118_62 rfl rfl rfl ?_
          refine zv_ald hB zd118_64 rfl rfl rfl ?_
          refine zv_getr hB zd118_65 rfl ?_
          refine zv_ild hB zd118_68 rfl rfl ?_
          refine zv_ild hB zd118_69 rfl rfl ?_
          refine zv_addw hB zd118_71 ?_
          obtain ⟨c18, h⟩ := zi_if h
          refine zv_iald hB zd118_72 rfl rfl (zi_ix_ok c18).1 (zi_ix_ok c18).2 (fun _ _ => ?_)
          refine zv_ist hB zd118_73 rfl rfl rfl ?_
          refine zv_con hB zd118_75 rfl ?_
          refine zv_ist hB zd118_76 rfl rfl rfl ?_
          obtain ⟨q19, hq19, h⟩ := zi_bind h
          refine l2 _ _ _ _ _ _ _ _ _ _ q19 hq19 ?_
          show good 119 [.inr 0, .inr 1000, .inl x2, .inl x3, .inl x4, .inl x5, .inl x6, .inl 0, .inl q19, .inr 1000] [] [.inr 1, .inr 4] [g0, g1, g2]
          refine zv_ild hB zd118_119 rfl rfl ?_
          refine zv_zeq hB zd118_121 rfl (fun _ => ?_) (fun hc => absurd hc (by decide))
          refine zv_ild hB zd118_131 rfl rfl ?_
          refine zv_zne hB zd118_133 rfl (fun hc21 => ?_) (fun hc21 => ?_)
          · rw [if_neg hc21] at h
            refine zv_con hB zd118_150 rfl ?_
            refine zv_goto hB zd118_151 rfl ?_
            refine zv_ist hB zd118_155 rfl rfl rfl ?_
            refine zv_ald hB zd118_157 rfl rfl rfl ?_
            refine zv_getr hB zd118_158 rfl ?_
            refine zv_ild hB zd118_161 rfl rfl ?_
            refine zv_ild hB zd118_162 rfl rfl ?_
            refine zv_addw hB zd118_164 ?_
            refine zv_ild hB zd118_165 rfl rfl ?_
            refine zv_iast hB zd118_167 rfl rfl (zi_ix_ok c18).1 (zi_ix_ok c18).2 ?_
            refine zv_iincw hB zd118_168 rfl rfl ?_
            refine zv_goto hB zd118_171 rfl ?_
            refine zv_wk hB (L' := [.inr 0, .inr 1000, .inl x2, .inl x3, .inl 1, .inl x5, .inl (zi_w (x6 + 1)), .inr 1000, .inr 1000, .inr 1000]) (F' := [.inr 1, .inr 4]) ⟨fun _ => rfl, fun (h : zv_is (.inr 1000)) => (Nat.lt_irrefl 1000 h).elim, fun _ => rfl, fun _ => rfl, fun _ => rfl, fun _ => rfl, fun _ => rfl, fun (h : zv_is (.inr 1000)) => (Nat.lt_irrefl 1000 h).elim, fun (h : zv_is (.inr 1000)) => (Nat.lt_irrefl 1000 h).elim, fun (h : zv_is (.inr 1000)) => (Nat.lt_irrefl 1000 h).elim, trivial⟩ ⟨fun _ => rfl, fun _ => rfl, trivial⟩ ?_
            exact ih _ _ _ _ _ _ q h hK
          · rw [if_pos hc21] at h
            refine zv_ild hB zd118_136 rfl rfl ?_
            refine zv_ald hB zd118_138 rfl rfl rfl ?_
            refine zv_getr hB zd118_139 rfl ?_
            refine zv_ild hB zd118_142 rfl rfl ?_
            refine zv_ild hB zd118_143 rfl rfl ?_
            refine zv_addw hB zd118_145 ?_
            refine zv_iald hB zd118_146 rfl rfl (zi_ix_ok c18).1 (zi_ix_ok c18).2 (fun _ _ => ?_)
            refine zv_ceq hB zd118_147 rfl (fun hc22 => ?_) (fun hc22 => ?_)
            · rw [if_pos hc22] at h
              refine zv_con hB zd118_154 rfl ?_
              refine zv_ist hB zd118_155 rfl rfl rfl ?_
              refine zv_ald hB zd118_157 rfl rfl rfl ?_
              refine zv_getr hB zd118_158 rfl ?_
              refine zv_ild hB zd118_161 rfl rfl ?_
              refine zv_ild hB zd118_162 rfl rfl ?_
              refine zv_addw hB zd118_164 ?_
              refine zv_ild hB zd118_165 rfl rfl ?_
              refine zv_iast hB zd118_167 rfl rfl (zi_ix_ok c18).1 (zi_ix_ok c18).2 ?_
              refine zv_iincw hB zd118_168 rfl rfl ?_
              refine zv_goto hB zd118_171 rfl ?_
              refine zv_wk hB (L' := [.inr 0, .inr 1000, .inl x2, .inl x3, .inl 0, .inl x5, .inl (zi_w (x6 + 1)), .inr 1000, .inr 1000, .inr 1000]) (F' := [.inr 1, .inr 4]) ⟨fun _ => rfl, fun (h : zv_is (.inr 1000)) => (Nat.lt_irrefl 1000 h).elim, fun _ => rfl, fun _ => rfl, fun _ => rfl, fun _ => rfl, fun _ => rfl, fun (h : zv_is (.inr 1000)) => (Nat.lt_irrefl 1000 h).elim, fun (h : zv_is (.inr 1000)) => (Nat.lt_irrefl 1000 h).elim, fun (h : zv_is (.inr 1000)) => (Nat.lt_irrefl 1000 h).elim, trivial⟩ ⟨fun _ => rfl, fun _ => rfl, trivial⟩ ?_
              exact ih _ _ _ _ _ _ q h hK
            · rw [if_neg hc22] at h
              refine zv_con hB zd118_150 rfl ?_
              refine zv_goto hB zd118_151 rfl ?_
              refine zv_ist hB zd118_155 rfl rfl rfl ?_
              refine zv_ald hB zd118_157 rfl rfl rfl ?_
              refine zv_getr hB zd118_158 rfl ?_
              refine zv_ild hB zd118_161 rfl rfl ?_
              refine zv_ild hB zd118_162 rfl rfl ?_
              refine zv_addw hB zd118_164 ?_
              refine zv_ild hB zd118_165 rfl rfl ?_
              refine zv_iast hB zd118_167 rfl rfl (zi_ix_ok c18).1 (zi_ix_ok c18).2 ?_
              refine zv_iincw hB zd118_168 rfl rfl ?_
              refine zv_goto hB zd118_171 rfl ?_
              refine zv_wk hB (L' := [.inr 0, .inr 1000, .inl x2, .inl x3, .inl 1, .inl x5, .inl (zi_w (x6 + 1)), .inr 1000, .inr 1000, .inr 1000]) (F' := [.inr 1, .inr 4]) ⟨fun _ => rfl, fun (h : zv_is (.inr 1000)) => (Nat.lt_irrefl 1000 h).elim, fun _ => rfl, fun _ => rfl, fun _ => rfl, fun _ => rfl, fun _ => rfl, fun (h : zv_is (.inr 1000)) => (Nat.lt_irrefl 1000 h).elim, fun (h : zv_is (.inr 1000)) => (Nat.lt_irrefl 1000 h).elim, fun (h : zv_is (.inr 1000)) => (Nat.lt_irrefl 1000 h).elim, trivial⟩ ⟨fun _ => rfl, fun _ => rfl, trivial⟩ ?_
              exact ih _ _ _ _ _ _ q h hK
  have l0 : ∀ (n : Nat) (x2 : Int) (x3 : Int) (x4 : Int) (x5 : Int) (g1 : (Int → Int)) (q : (((Int → Int)) ⊕ (Int × (Int → Int)))), zf_Matcher_agree_l0 x2 x3 g0 g2 n x4 x5 g1 = some q → (Sum.elim (fun e : (Int → Int) => good 180 [.inr 1000, .inr 1000, .inr 1000, .inr 1000, .inr 1000, .inr 1000, .inr 1000, .inr 1000, .inr 1000, .inr 1000] [] [.inr 1, .inr 4] [g0, e, g2]) (fun w : Int × (Int → Int) => w = o) q) → good 11 [.inr 0, .inr 1000, .inl x2, .inl x3, .inl x4, .inl x5, .inr 1000, .inr 1000, .inr 1000, .inr 1000] [] [.inr 1, .inr 4] [g0, g1, g2] := by
    intro n
    induction n with
    | zero => intro x2 x3 x4 x5 g1 q h; exact absurd (show none = some q from h) (fun h => by cases h)
    | succ n ih =>
      intro x2 x3 x4 x5 g1 q h hK
      replace h : zf_Matcher_agree_l0_b x2 x3 g0 g2 (zf_Matcher_agree_l0 x2 x3 g0 g2 n) x4 x5 g1 = some q := h
      unfold zf_Matcher_agree_l0_b at h
      refine zv_ild hB zd118_11 rfl rfl ?_
      refine zv_con hB zd118_13 rfl ?_
      refine zv_cge hB zd118_16 rfl (fun hc1 => ?_) (fun hc1 => ?_)
      · rw [if_neg (Int.not_lt.mpr hc1)] at h
        have hq := Option.some.inj h
        subst hq
        refine zv_wk hB (L' := [.inr 1000, .inr 1000, .inr 1000, .inr 1000, .inr 1000, .inr 1000, .inr 1000, .inr 1000, .inr 1000, .inr 1000]) (F' := [.inr 1, .inr 4]) ⟨fun (h : zv_is (.inr 1000)) => (Nat.lt_irrefl 1000 h).elim, fun (h : zv_is (.inr 1000)) => (Nat.lt_irrefl 1000 h).elim, fun (h : zv_is (.inr 1000)) => (Nat.lt_irrefl 1000 h).elim, fun (h : zv_is (.inr 1000)) => (Nat.lt_irrefl 1000 h).elim, fun (h : zv_is (.inr 1000)) => (Nat.lt_irrefl 1000 h).elim, fun (h : zv_is (.inr 1000)) => (Nat.lt_irrefl 1000 h).elim, fun (h : zv_is (.inr 1000)) => (Nat.lt_irrefl 1000 h).elim, fun (h : zv_is (.inr 1000)) => (Nat.lt_irrefl 1000 h).elim, fun (h : zv_is (.inr 1000)) => (Nat.lt_irrefl 1000 h).elim, fun (h : zv_is (.inr 1000)) => (Nat.lt_irrefl 1000 h).elim, trivial⟩ ⟨fun _ => rfl, fun _ => rfl, trivial⟩ ?_
        exact hK
      · rw [if_pos hc1] at h
        refine zv_ild hB zd118_19 rfl rfl ?_
        refine zv_zeq hB zd118_21 rfl (fun hc2 => ?_) (fun hc2 => ?_)
        · rw [if_pos hc2] at h
          have hq := Option.some.inj h
          subst hq
          refine zv_wk hB (L' := [.inr 1000, .inr 1000, .inr 1000, .inr 1000, .inr 1000, .inr 1000, .inr 1000, .inr 1000, .inr 1000, .inr 1000]) (F' := [.inr 1, .inr 4]) ⟨fun (h : zv_is (.inr 1000)) => (Nat.lt_irrefl 1000 h).elim, fun (h : zv_is (.inr 1000)) => (Nat.lt_irrefl 1000 h).elim, fun (h : zv_is (.inr 1000)) => (Nat.lt_irrefl 1000 h).elim, fun (h : zv_is (.inr 1000)) => (Nat.lt_irrefl 1000 h).elim, fun (h : zv_is (.inr 1000)) => (Nat.lt_irrefl 1000 h).elim, fun (h : zv_is (.inr 1000)) => (Nat.lt_irrefl 1000 h).elim, fun (h : zv_is (.inr 1000)) => (Nat.lt_irrefl 1000 h).elim, fun (h : zv_is (.inr 1000)) => (Nat.lt_irrefl 1000 h).elim, fun (h : zv_is (.inr 1000)) => (Nat.lt_irrefl 1000 h).elim, fun (h : zv_is (.inr 1000)) => (Nat.lt_irrefl 1000 h).elim, trivial⟩ ⟨fun _ => rfl, fun _ => rfl, trivial⟩ ?_
          exact hK
        · rw [if_neg hc2] at h
          refine zv_con hB zd118_24 rfl ?_
          refine zv_ist hB zd118_25 rfl rfl rfl ?_
          refine zv_con hB zd118_27 rfl ?_
          refine zv_ist hB zd118_28 rfl rfl rfl ?_
          obtain ⟨q23, hq23, h⟩ := zi_bind h
          refine l1 _ _ _ _ _ _ _ q23 hq23 ?_
          rcases q23 with e24 | w25
          · replace h := zi_sl h
            show good 174 [.inr 0, .inr 1000, .inl x2, .inl x3, .inl e24.1, .inl x5, .inr 1000, .inr 1000, .inr 1000, .inr 1000] [] [.inr 1, .inr 4] [g0, e24.2, g2]
            refine zv_iincw hB zd118_174 rfl rfl ?_
            refine zv_goto hB zd118_177 rfl ?_
            exact ih _ _ _ _ _ q h hK
          · exact zi_rk (Option.some.inj h) hK
  unfold zf_Matcher_agree at h
  refine zv_ild hB zd118_0 rfl rfl ?_
  refine zv_con hB zd118_1 rfl ?_
  refine zv_mulw hB zd118_3 ?_
  refine zv_ist hB zd118_4 rfl rfl rfl ?_
  refine zv_con hB zd118_5 rfl ?_
  refine zv_ist hB zd118_6 rfl rfl rfl ?_
  refine zv_con hB zd118_8 rfl ?_
  refine zv_ist hB zd118_9 rfl rfl rfl ?_
  obtain ⟨q26, hq26, h⟩ := zi_bind h
  refine zv_wk hB (L' := [.inr 0, .inr 1000, .inl x2, .inl (zi_w (x1 * 8)), .inl 1, .inl 0, .inr 1000, .inr 1000, .inr 1000, .inr 1000]) (F' := [.inr 1, .inr 4]) ⟨fun _ => rfl, fun (h : zv_is (.inr 1000)) => (Nat.lt_irrefl 1000 h).elim, fun _ => rfl, fun _ => rfl, fun _ => rfl, fun _ => rfl, fun (h : zv_is (.inr 1000)) => (Nat.lt_irrefl 1000 h).elim, fun (h : zv_is (.inr 1000)) => (Nat.lt_irrefl 1000 h).elim, fun (h : zv_is (.inr 1000)) => (Nat.lt_irrefl 1000 h).elim, fun (h : zv_is (.inr 1000)) => (Nat.lt_irrefl 1000 h).elim, trivial⟩ ⟨fun _ => rfl, fun _ => rfl, trivial⟩ ?_
  refine l0 _ _ _ _ _ _ q26 hq26 ?_
  rcases q26 with e27 | w28
  · replace h := zi_sl h
    show good 180 [.inr 1000, .inr 1000, .inr 1000, .inr 1000, .inr 1000, .inr 1000, .inr 1000, .inr 1000, .inr 1000, .inr 1000] [] [.inr 1, .inr 4] [g0, e27, g2]
    refine zv_con hB zd118_180 rfl ?_
    have hw := Option.some.inj h
    subst hw
    exact hret _ _ _ _ _ zd118_181 (by constructor <;> decide) ⟨rfl, rfl, rfl⟩
  · exact Option.some.inj h
end
section
/-! Methods as functions, and that they do what these do. -/
/-! Matcher_search (III)I -/
-- names: 0 Matcher('arg', 0), 1 (0, 72)(0, 8, 0), 2 Tale(0, 8, 3), 3 (0, 8)(2, 6, 2), 4 (0, 24)(0, 8, 1), 5 (0, 8)(0, 8, 2), 6 (0, 24)(0, 8, 4)
-- fields: f0 = 0.tale_, f1 = 0.joined_, f2 = 0.deadEnds_; arrays: g0 = 1, g1 = 3, g2 = 4, g3 = 5, g4 = 6; out: [('ret', None), ('f', 2), ('g', 0), ('g', 3)]
abbrev zy_Matcher_search : zNL := (7, [(0, 8), (2, 6)], [(0, 8, 3, 0), (0, 8, 4, 1), (0, 8, 6, 2)], [(0, 8, 0, 1), (2, 6, 2, 3), (0, 8, 1, 4), (0, 8, 2, 5)], [(1, 0, 72, 0), (3, 0, 8, 1), (4, 0, 24, 2), (5, 0, 8, 3), (6, 0, 24, 4)])
theorem zyw_Matcher_search : zv_wf zy_Matcher_search = true := by decide +kernel
theorem zye_Matcher_search : zv_ek2 zy_Matcher_search = true := by decide +kernel
def zm_Matcher_search_l0_b (rc : Nat → Int → Int → Int → Int → (Int → Int) → (Int → Int) → (Int → Int) → (Int → Int) → (Int → Int) → Option (Int × Int × (Int → Int) × (Int → Int))) (x1 : Int) (x3 : Int) (x4 : Int) (x6 : Int) (g1 : (Int → Int)) (g2 : (Int → Int)) (g4 : (Int → Int)) (rec : Int → Int → Int → Int → (Int → Int) → (Int → Int) → Option (Int × Int × (Int → Int) × (Int → Int))) (x5 : Int) (x7 : Int) (x8 : Int) (f2 : Int) (g0 : (Int → Int)) (g3 : (Int → Int)) : Option (Int × Int × (Int → Int) × (Int → Int)) := if x8 < 24 then (if x7 < x3 then (if (zi_and (zi_shr x5 x8) 1) = 0 then (rec x5 x7 (zi_w (x8 + 1)) f2 g0 g3) else (cond (zi_ix x8 24) ((zf_Integer_bitCount (zi_and x5 (g2 x8))).bind fun r10 => (cond (zi_ix x4 8) ((zf_Matcher_narrow x1 x6 x4 x8 g0 g1 g4).bind fun r12 => (if r12.1 = 0 then (rec (zi_and x5 (zi_xor (g2 x8) (-1))) x7 (zi_w (x8 + 1)) (zi_w (f2 + 1)) r12.2 (zv_up g3 x4 x8)) else (if f2 < 40 then ((rc 0 (zi_w (x1 + 1)) x6 (zi_w (x3 - x7)) f2 r12.2 g1 g2 (zv_up g3 x4 x8) g4).bind fun r15 => (rec (zi_and x5 (zi_xor (g2 x8) (-1))) (zi_w (x7 + (zi_w (r10 * r15.1)))) (zi_w (x8 + 1)) r15.2.1 r15.2.2.1 r15.2.2.2)) else ((zf_Matcher_agree (zi_w (x1 + 1)) x6 g1 r12.2 g4).bind fun r16 => (if r16.1 = 0 then (rec (zi_and x5 (zi_xor (g2 x8) (-1))) x7 (zi_w (x8 + 1)) (zi_w (f2 + 1)) r16.2 (zv_up g3 x4 x8)) else ((rc 0 (zi_w (x1 + 1)) x6 (zi_w (x3 - x7)) f2 r16.2 g1 g2 (zv_up g3 x4 x8) g4).bind fun r18 => (rec (zi_and x5 (zi_xor (g2 x8) (-1))) (zi_w (x7 + (zi_w (r10 * r18.1)))) (zi_w (x8 + 1)) r18.2.1 r18.2.2.1 r18.2.2.2))))))) none)) none)) else (some (x7, f2, g0, g3))) else (some (x7, f2, g0, g3))
def zm_Matcher_search_l0 (rc : Nat → Int → Int → Int → Int → (Int → Int) → (Int → Int) → (Int → Int) → (Int → Int) → (Int → Int) → Option (Int × Int × (Int → Int) × (Int → Int))) (x1 : Int) (x3 : Int) (x4 : Int) (x6 : Int) (g1 : (Int → Int)) (g2 : (Int → Int)) (g4 : (Int → Int)) : Nat → Int → Int → Int → Int → (Int → Int) → (Int → Int) → Option (Int × Int × (Int → Int) × (Int → Int))
  | 0, _, _, _, _, _, _ => none
  | n + 1, x5, x7, x8, f2, g0, g3 => zm_Matcher_search_l0_b rc x1 x3 x4 x6 g1 g2 g4 (zm_Matcher_search_l0 rc x1 x3 x4 x6 g1 g2 g4 n) x5 x7 x8 f2 g0 g3
def zm_Matcher_search (rc : Nat → Int → Int → Int → Int → (Int → Int) → (Int → Int) → (Int → Int) → (Int → Int) → (Int → Int) → Option (Int × Int × (Int → Int) × (Int → Int))) (x1 : Int) (x2 : Int) (x3 : Int) (f2 : Int) (g0 : (Int → Int)) (g1 : (Int → Int)) (g2 : (Int → Int)) (g3 : (Int → Int)) (g4 : (Int → Int)) : Option (Int × Int × (Int → Int) × (Int → Int)) := if x2 = 0 then (some (1, f2, g0, g3)) else (if x1 < 8 then ((zf_Matcher_tightest x1 x2 g0 g1).bind fun r4 => (cond (zi_ix (zi_w ((zi_w (x1 * 8)) + r4)) 72) ((zm_Matcher_search_l0 rc x1 x3 r4 (zi_and x2 (zi_xor (zi_shl 1 r4) (-1))) g1 g2 g4 zi_fu (g0 (zi_w ((zi_w (x1 * 8)) + r4))) 0 0 f2 g0 g3).bind fun q19 => ((zf_Math_min q19.1 x3).bind fun r20 => (some (r20, q19.2.1, q19.2.2.1, q19.2.2.2)))) none)) else (some (0, f2, g0, g3)))
theorem zd115_0 : decode zxm115.2.1 0 = .ok (.iload_n 2, 1) := by decide +kernel
theorem zd115_1 : decode zxm115.2.1 1 = .ok (.ifCond .eq 9, 3) := by decide +kernel
theorem zd115_4 : decode zxm115.2.1 4 = .ok (.iload_n 1, 1) := by decide +kernel
theorem zd115_5 : decode zxm115.2.1 5 = .ok (.bipush 8, 2) := by decide +kernel
theorem zd115_7 : decode zxm115.2.1 7 = .ok (.if_icmp .lt 13, 3) := by decide +kernel
theorem zd115_10 : decode zxm115.2.1 10 = .ok (.iload_n 2, 1) := by decide +kernel
theorem zd115_11 : decode zxm115.2.1 11 = .ok (.ifCond .ne 7, 3) := by decide +kernel
theorem zd115_14 : decode zxm115.2.1 14 = .ok (.iconst 1, 1) := by decide +kernel
theorem zd115_15 : decode zxm115.2.1 15 = .ok (.goto 4, 3) := by decide +kernel
theorem zd115_18 : decode zxm115.2.1 18 = .ok (.iconst 0, 1) := by decide +kernel
theorem zd115_19 : decode zxm115.2.1 19 = .ok (.ireturn, 1) := by decide +kernel
theorem zd115_20 : decode zxm115.2.1 20 = .ok (.aload_n 0, 1) := by decide +kernel
theorem zd115_21 : decode zxm115.2.1 21 = .ok (.iload_n 1, 1) := by decide +kernel
theorem zd115_22 : decode zxm115.2.1 22 = .ok (.iload_n 2, 1) := by decide +kernel
theorem zd115_23 : decode zxm115.2.1 23 = .ok (.invokevirtual 65, 3) := by decide +kernel
theorem zd115_26 : decode zxm115.2.1 26 = .ok (.istore 4, 2) := by decide +kernel
theorem zd115_28 : decode zxm115.2.1 28 = .ok (.aload_n 0, 1) := by decide +kernel
theorem zd115_29 : decode zxm115.2.1 29 = .ok (.getfield 11, 3) := by decide +kernel
theorem zd115_32 : decode zxm115.2.1 32 = .ok (.iload_n 1, 1) := by decide +kernel
theorem zd115_33 : decode zxm115.2.1 33 = .ok (.bipush 8, 2) := by decide +kernel
theorem zd115_35 : decode zxm115.2.1 35 = .ok (.imul, 1) := by decide +kernel
theorem zd115_36 : decode zxm115.2.1 36 = .ok (.iload 4, 2) := by decide +kernel
theorem zd115_38 : decode zxm115.2.1 38 = .ok (.iadd, 1) := by decide +kernel
theorem zd115_39 : decode zxm115.2.1 39 = .ok (.iaload, 1) := by decide +kernel
theorem zd115_40 : decode zxm115.2.1 40 = .ok (.istore 5, 2) := by decide +kernel
theorem zd115_42 : decode zxm115.2.1 42 = .ok (.iload_n 2, 1) := by decide +kernel
theorem zd115_43 : decode zxm115.2.1 43 = .ok (.iconst 1, 1) := by decide +kernel
theorem zd115_44 : decode zxm115.2.1 44 = .ok (.iload 4, 2) := by decide +kernel
theorem zd115_46 : decode zxm115.2.1 46 = .ok (.ishl, 1) := by decide +kernel
theorem zd115_47 : decode zxm115.2.1 47 = .ok (.iconst (-1), 1) := by decide +kernel
theorem zd115_48 : decode zxm115.2.1 48 = .ok (.ixor, 1) := by decide +kernel
theorem zd115_49 : decode zxm115.2.1 49 = .ok (.iand, 1) := by decide +kernel
theorem zd115_50 : decode zxm115.2.1 50 = .ok (.istore 6, 2) := by decide +kernel
theorem zd115_52 : decode zxm115.2.1 52 = .ok (.iconst 0, 1) := by decide +kernel
theorem zd115_53 : decode zxm115.2.1 53 = .ok (.istore 7, 2) := by decide +kernel
theorem zd115_55 : decode zxm115.2.1 55 = .ok (.iconst 0, 1) := by decide +kernel
theorem zd115_56 : decode zxm115.2.1 56 = .ok (.istore 8, 2) := by decide +kernel
theorem zd115_58 : decode zxm115.2.1 58 = .ok (.iload 8, 2) := by decide +kernel
theorem zd115_60 : decode zxm115.2.1 60 = .ok (.bipush 24, 2) := by decide +kernel
theorem zd115_62 : decode zxm115.2.1 62 = .ok (.if_icmp .ge 132, 3) := by decide +kernel
theorem zd115_65 : decode zxm115.2.1 65 = .ok (.iload 7, 2) := by decide +kernel
theorem zd115_67 : decode zxm115.2.1 67 = .ok (.iload_n 3, 1) := by decide +kernel
theorem zd115_68 : decode zxm115.2.1 68 = .ok (.if_icmp .ge 126, 3) := by decide +kernel
theorem zd115_71 : decode zxm115.2.1 71 = .ok (.iload 5, 2) := by decide +kernel
theorem zd115_73 : decode zxm115.2.1 73 = .ok (.iload 8, 2) := by decide +kernel
theorem zd115_75 : decode zxm115.2.1 75 = .ok (.ishr, 1) := by decide +kernel
theorem zd115_76 : decode zxm115.2.1 76 = .ok (.iconst 1, 1) := by decide +kernel
theorem zd115_77 : decode zxm115.2.1 77 = .ok (.iand, 1) := by decide +kernel
theorem zd115_78 : decode zxm115.2.1 78 = .ok (.ifCond .eq 110, 3) := by decide +kernel
theorem zd115_81 : decode zxm115.2.1 81 = .ok (.iload 5, 2) := by decide +kernel
theorem zd115_83 : decode zxm115.2.1 83 = .ok (.aload_n 0, 1) := by decide +kernel
theorem zd115_84 : decode zxm115.2.1 84 = .ok (.getfield 17, 3) := by decide +kernel
theorem zd115_87 : decode zxm115.2.1 87 = .ok (.iload 8, 2) := by decide +kernel
theorem zd115_89 : decode zxm115.2.1 89 = .ok (.iaload, 1) := by decide +kernel
theorem zd115_90 : decode zxm115.2.1 90 = .ok (.iand, 1) := by decide +kernel
theorem zd115_91 : decode zxm115.2.1 91 = .ok (.invokestatic 55, 3) := by decide +kernel
theorem zd115_94 : decode zxm115.2.1 94 = .ok (.istore 9, 2) := by decide +kernel
theorem zd115_96 : decode zxm115.2.1 96 = .ok (.iload 5, 2) := by decide +kernel
theorem zd115_98 : decode zxm115.2.1 98 = .ok (.aload_n 0, 1) := by decide +kernel
theorem zd115_99 : decode zxm115.2.1 99 = .ok (.getfield 17, 3) := by decide +kernel
theorem zd115_102 : decode zxm115.2.1 102 = .ok (.iload 8, 2) := by decide +kernel
theorem zd115_104 : decode zxm115.2.1 104 = .ok (.iaload, 1) := by decide +kernel
theorem zd115_105 : decode zxm115.2.1 105 = .ok (.iconst (-1), 1) := by decide +kernel
theorem zd115_106 : decode zxm115.2.1 106 = .ok (.ixor, 1) := by decide +kernel
theorem zd115_107 : decode zxm115.2.1 107 = .ok (.iand, 1) := by decide +kernel
theorem zd115_108 : decode zxm115.2.1 108 = .ok (.istore 5, 2) := by decide +kernel
theorem zd115_110 : decode zxm115.2.1 110 = .ok (.aload_n 0, 1) := by decide +kernel
theorem zd115_111 : decode zxm115.2.1 111 = .ok (.getfield 20, 3) := by decide +kernel
theorem zd115_114 : decode zxm115.2.1 114 = .ok (.iload 4, 2) := by decide +kernel
theorem zd115_116 : decode zxm115.2.1 116 = .ok (.iload 8, 2) := by decide +kernel
theorem zd115_118 : decode zxm115.2.1 118 = .ok (.iastore, 1) := by decide +kernel
theorem zd115_119 : decode zxm115.2.1 119 = .ok (.aload_n 0, 1) := by decide +kernel
theorem zd115_120 : decode zxm115.2.1 120 = .ok (.iload_n 1, 1) := by decide +kernel
theorem zd115_121 : decode zxm115.2.1 121 = .ok (.iload 6, 2) := by decide +kernel
theorem zd115_123 : decode zxm115.2.1 123 = .ok (.iload 4, 2) := by decide +kernel
theorem zd115_125 : decode zxm115.2.1 125 = .ok (.iload 8, 2) := by decide +kernel
theorem zd115_127 : decode zxm115.2.1 127 = .ok (.invokevirtual 68, 3) := by decide +kernel
theorem zd115_130 : decode zxm115.2.1 130 = .ok (.ifCond .eq 48, 3) := by decide +kernel
theorem zd115_133 : decode zxm115.2.1 133 = .ok (.aload_n 0, 1) := by decide +kernel
theorem zd115_134 : decode zxm115.2.1 134 = .ok (.getfield 27, 3) := by decide +kernel
theorem zd115_137 : decode zxm115.2.1 137 = .ok (.bipush 40, 2) := by decide +kernel
theorem zd115_139 : decode zxm115.2.1 139 = .ok (.if_icmp .lt 15, 3) := by decide +kernel
theorem zd115_142 : decode zxm115.2.1 142 = .ok (.aload_n 0, 1) := by decide +kernel
theorem zd115_143 : decode zxm115.2.1 143 = .ok (.iload_n 1, 1) := by decide +kernel
theorem zd115_144 : decode zxm115.2.1 144 = .ok (.iconst 1, 1) := by decide +kernel
theorem zd115_145 : decode zxm115.2.1 145 = .ok (.iadd, 1) := by decide +kernel
theorem zd115_146 : decode zxm115.2.1 146 = .ok (.iload 6, 2) := by decide +kernel
theorem zd115_148 : decode zxm115.2.1 148 = .ok (.invokevirtual 72, 3) := by decide +kernel
theorem zd115_151 : decode zxm115.2.1 151 = .ok (.ifCond .eq 27, 3) := by decide +kernel
theorem zd115_154 : decode zxm115.2.1 154 = .ok (.iload 7, 2) := by decide +kernel
theorem zd115_156 : decode zxm115.2.1 156 = .ok (.iload 9, 2) := by decide +kernel
theorem zd115_158 : decode zxm115.2.1 158 = .ok (.aload_n 0, 1) := by decide +kernel
theorem zd115_159 : decode zxm115.2.1 159 = .ok (.iload_n 1, 1) := by decide +kernel
theorem zd115_160 : decode zxm115.2.1 160 = .ok (.iconst 1, 1) := by decide +kernel
theorem zd115_161 : decode zxm115.2.1 161 = .ok (.iadd, 1) := by decide +kernel
theorem zd115_162 : decode zxm115.2.1 162 = .ok (.iload 6, 2) := by decide +kernel
theorem zd115_164 : decode zxm115.2.1 164 = .ok (.iload_n 3, 1) := by decide +kernel
theorem zd115_165 : decode zxm115.2.1 165 = .ok (.iload 7, 2) := by decide +kernel
theorem zd115_167 : decode zxm115.2.1 167 = .ok (.isub, 1) := by decide +kernel
theorem zd115_168 : decode zxm115.2.1 168 = .ok (.invokevirtual 44, 3) := by decide +kernel
theorem zd115_171 : decode zxm115.2.1 171 = .ok (.imul, 1) := by decide +kernel
theorem zd115_172 : decode zxm115.2.1 172 = .ok (.iadd, 1) := by decide +kernel
theorem zd115_173 : decode zxm115.2.1 173 = .ok (.istore 7, 2) := by decide +kernel
theorem zd115_175 : decode zxm115.2.1 175 = .ok (.goto 13, 3) := by decide +kernel
theorem zd115_178 : decode zxm115.2.1 178 = .ok (.aload_n 0, 1) := by decide +kernel
theorem zd115_179 : decode zxm115.2.1 179 = .ok (.dup, 1) := by decide +kernel
theorem zd115_180 : decode zxm115.2.1 180 = .ok (.getfield 27, 3) := by decide +kernel
theorem zd115_183 : decode zxm115.2.1 183 = .ok (.iconst 1, 1) := by decide +kernel
theorem zd115_184 : decode zxm115.2.1 184 = .ok (.iadd, 1) := by decide +kernel
theorem zd115_185 : decode zxm115.2.1 185 = .ok (.putfield 27, 3) := by decide +kernel
theorem zd115_188 : decode zxm115.2.1 188 = .ok (.iinc 8 1, 3) := by decide +kernel
theorem zd115_191 : decode zxm115.2.1 191 = .ok (.goto (-133), 3) := by decide +kernel
theorem zd115_194 : decode zxm115.2.1 194 = .ok (.iload 7, 2) := by decide +kernel
theorem zd115_196 : decode zxm115.2.1 196 = .ok (.iload_n 3, 1) := by decide +kernel
theorem zd115_197 : decode zxm115.2.1 197 = .ok (.invokestatic 76, 3) := by decide +kernel
theorem zd115_200 : decode zxm115.2.1 200 = .ok (.ireturn, 1) := by decide +kernel
theorem zts_Matcher_search {dp : Nat} {rc : Nat → Int → Int → Int → Int → (Int → Int) → (Int → Int) → (Int → Int) → (Int → Int) → (Int → Int) → Option (Int × Int × (Int → Int) × (Int → Int))} (ih0 : ∀ (x1 : Int) (x2 : Int) (x3 : Int) (f2 : Int) (g0 : (Int → Int)) (g1 : (Int → Int)) (g2 : (Int → Int)) (g3 : (Int → Int)) (g4 : (Int → Int)) (o : Int × Int × (Int → Int) × (Int → Int)), rc 0 x1 x2 x3 f2 g0 g1 g2 g3 g4 = some o → zv_Fn z_TB z_cl z_KX zy_Matcher_search zxm115 (2 + dp, 60 * (2 + dp)) [.inr 0, .inl x1, .inl x2, .inl x3] [.inr 2, .inr 6, .inl f2] [g0, g1, g2, g3, g4] (some o.1) [.inr 2, .inr 6, .inl o.2.1] [o.2.2.1, g1, g2, o.2.2.2, g4]) {x1 : Int} {x2 : Int} {x3 : Int} {f2 : Int} {g0 : (Int → Int)} {g1 : (Int → Int)} {g2 : (Int → Int)} {g3 : (Int → Int)} {g4 : (Int → Int)} {o : Int × Int × (Int → Int) × (Int → Int)} (h : zm_Matcher_search rc x1 x2 x3 f2 g0 g1 g2 g3 g4 = some o) : zv_Fn z_TB z_cl z_KX zy_Matcher_search zxm115 (2 + (dp + 1), 60 * (2 + (dp + 1))) [.inr 0, .inl x1, .inl x2, .inl x3] [.inr 2, .inr 6, .inl f2] [g0, g1, g2, g3, g4] (some o.1) [.inr 2, .inr 6, .inl o.2.1] [o.2.2.1, g1, g2, o.2.2.2, g4] := zv_meth (K := (z_KF4, z_KC4, z_KL4, z_KT4, [], [], [], none)) (FT := z_FT) (MT := z_MT) (n := 4) zxp115 (z_ks4 _ (fun _ h => List.mem_cons_of_mem _ h) _ _ _ _ (fun j r h _ => by cases h)) (fun _ _ => zs_KX_p) zyw_Matcher_search (fun va F G h => by obtain ⟨rfl, _⟩ := h; rfl) (fun va F G h => by obtain ⟨rfl, _⟩ := h; rfl) rfl fun good va F G hB hret hvret hP => by
  obtain ⟨rfl, rfl, rfl⟩ := hP
  have l0 : ∀ (n : Nat) (x1 : Int) (x3 : Int) (x4 : Int) (x5 : Int) (x6 : Int) (x7 : Int) (x8 : Int) (f2 : Int) (g0 : (Int → Int)) (g3 : (Int → Int)) (q : Int × Int × (Int → Int) × (Int → Int)), zm_Matcher_search_l0 rc x1 x3 x4 x6 g1 g2 g4 n x5 x7 x8 f2 g0 g3 = some q → (good 194 [.inr 1000, .inr 1000, .inr 1000, .inl x3, .inr 1000, .inr 1000, .inr 1000, .inl q.1, .inr 1000, .inr 1000] [] [.inr 2, .inr 6, .inl q.2.1] [q.2.2.1, g1, g2, q.2.2.2, g4]) → good 58 [.inr 0, .inl x1, .inr 1000, .inl x3, .inl x4, .inl x5, .inl x6, .inl x7, .inl x8, .inr 1000] [] [.inr 2, .inr 6, .inl f2] [g0, g1, g2, g3, g4] := by
    intro n
    induction n with
    | zero => intro x1 x3 x4 x5 x6 x7 x8 f2 g0 g3 q h; exact absurd (show none = some q from h) (fun h => by cases h)
    | succ n ih =>
      intro x1 x3 x4 x5 x6 x7 x8 f2 g0 g3 q h hK
      replace h : zm_Matcher_search_l0_b rc x1 x3 x4 x6 g1 g2 g4 (zm_Matcher_search_l0 rc x1 x3 x4 x6 g1 g2 g4 n) x5 x7 x8 f2 g0 g3 = some q := h
      unfold zm_Matcher_search_l0_b at h
      refine zv_ild hB zd115_58 rfl rfl ?_
      refine zv_con hB zd115_60 rfl ?_
      refine zv_cge hB zd115_62 rfl (fun hc6 => ?_) (fun hc6 => ?_)
      · rw [if_neg (Int.not_lt.mpr hc6)] at h
        have hq := Option.some.inj h
        subst hq
        refine zv_wk hB (L' := [.inr 1000, .inr 1000, .inr 1000, .inl x3, .inr 1000, .inr 1000, .inr 1000, .inl x7, .inr 1000, .inr 1000]) (F' := [.inr 2, .inr 6, .inl f2]) ⟨fun (h : zv_is (.inr 1000)) => (Nat.lt_irrefl 1000 h).elim, fun (h : zv_is (.inr 1000)) => (Nat.lt_irrefl 1000 h).elim, fun (h : zv_is (.inr 1000)) => (Nat.lt_irrefl 1000 h).elim, fun _ => rfl, fun (h : zv_is (.inr 1000)) => (Nat.lt_irrefl 1000 h).elim, fun (h : zv_is (.inr 1000)) => (Nat.lt_irrefl 1000 h).elim, fun (h : zv_is (.inr 1000)) => (Nat.lt_irrefl 1000 h).elim, fun _ => rfl, fun (h : zv_is (.inr 1000)) => (Nat.lt_irrefl 1000 h).elim, fun (h : zv_is (.inr 1000)) => (Nat.lt_irrefl 1000 h).elim, trivial⟩ ⟨fun _ => rfl, fun _ => rfl, fun _ => rfl, trivial⟩ ?_
        exact hK
      · rw [if_pos hc6] at h
        refine zv_ild hB zd115_65 rfl rfl ?_
        refine zv_ild hB zd115_67 rfl rfl ?_
        refine zv_cge hB zd115_68 rfl (fun hc7 => ?_) (fun hc7 => ?_)
        · rw [if_neg (Int.not_lt.mpr hc7)] at h
          have hq := Option.some.inj h
          subst hq
          refine zv_wk hB (L' := [.inr 1000, .inr 1000, .inr 1000, .inl x3, .inr 1000, .inr 1000, .inr 1000, .inl x7, .inr 1000, .inr 1000]) (F' := [.inr 2, .inr 6, .inl f2]) ⟨fun (h : zv_is (.inr 1000)) => (Nat.lt_irrefl 1000 h).elim, fun (h : zv_is (.inr 1000)) => (Nat.lt_irrefl 1000 h).elim, fun (h : zv_is (.inr 1000)) => (Nat.lt_irrefl 1000 h).elim, fun _ => rfl, fun (h : zv_is (.inr 1000)) => (Nat.lt_irrefl 1000 h).elim, fun (h : zv_is (.inr 1000)) => (Nat.lt_irrefl 1000 h).elim, fun (h : zv_is (.inr 1000)) => (Nat.lt_irrefl 1000 h).elim, fun _ => rfl, fun (h : zv_is (.inr 1000)) => (Nat.lt_irrefl 1000 h).elim, fun (h : zv_is (.inr 1000)) => (Nat.lt_irrefl 1000 h).elim, trivial⟩ ⟨fun _ => rfl, fun _ => rfl, fun _ => rfl, trivial⟩ ?_
          exact hK
        · rw [if_pos hc7] at h
          refine zv_ild hB zd115_71 rfl rfl ?_
          refine zv_ild hB zd115_73 rfl rfl ?_
          refine zv_shrw hB zd115_75 ?_
          refine zv_con hB zd115_76 rfl ?_
          refine zv_andw hB zd115_77 ?_
          refine zv_zeq hB zd115_78 rfl (fun hc8 => ?_) (fun hc8 => ?_)
          · rw [if_pos hc8] at h
            refine zv_iincw hB zd115_188 rfl rfl ?_
            refine zv_goto hB zd115_191 rfl ?_
            exact ih _ _ _ _ _ _ _ _ _ _ q h hK
          · rw [if_neg hc8] at h
            refine zv_ild hB zd115_81 rfl rfl ?_
            refine zv_ald hB zd115_83 rfl rfl rfl ?_
            refine zv_getr hB zd115_84 rfl ?_
            refine zv_ild hB zd115_87 rfl rfl ?_
            obtain ⟨c9, h⟩ := zi_if h
            refine zv_iald hB zd115_89 rfl rfl (zi_ix_ok c9).1 (zi_ix_ok c9).2 (fun _ _ => ?_)
            refine zv_andw hB zd115_90 ?_
            obtain ⟨r10, hr10, h⟩ := zi_bind h
            refine zv_cs hB (zv_emq (va2 := [.inl (zi_and x5 (g2 x8))]) (F := [.inr 2, .inr 6, .inl f2]) (F' := [.inr 2, .inr 6, .inl f2]) (G := [g0, g1, g2, g3, g4]) (G' := [g0, g1, g2, g3, g4]) (ρ := []) (φ := []) (ψ := []) [none, none, none] [none, none, none, none, none] zyw_Integer_bitCount zyw_Matcher_search zye_Matcher_search (by decide +kernel) (zt_Integer_bitCount hr10) trivial trivial rfl rfl rfl rfl rfl rfl rfl) zd115_91 zxt102 rfl (by show 0 + 1 ≤ 2 + (dp + 1); omega) (by show 8 + (1 + 11) + 60 * (0) ≤ 60 * (2 + (dp + 1)); omega) rfl ?_
            refine zv_ist hB zd115_94 rfl rfl rfl ?_
            refine zv_ild hB zd115_96 rfl rfl ?_
            refine zv_ald hB zd115_98 rfl rfl rfl ?_
            refine zv_getr hB zd115_99 rfl ?_
            refine zv_ild hB zd115_102 rfl rfl ?_
            refine zv_iald hB zd115_104 rfl rfl (zi_ix_ok c9).1 (zi_ix_ok c9).2 (fun _ _ => ?_)
            refine zv_con hB zd115_105 rfl ?_
            refine zv_xorw hB zd115_106 ?_
            refine zv_andw hB zd115_107 ?_
            refine zv_ist hB zd115_108 rfl rfl rfl ?_
            refine zv_ald hB zd115_110 rfl rfl rfl ?_
            refine zv_getr hB zd115_111 rfl ?_
            refine zv_ild hB zd115_114 rfl rfl ?_
            refine zv_ild hB zd115_116 rfl rfl ?_
            obtain ⟨c11, h⟩ := zi_if h
            refine zv_iast hB zd115_118 rfl rfl (zi_ix_ok c11).1 (zi_ix_ok c11).2 ?_
            refine zv_ald hB zd115_119 rfl rfl rfl ?_
            refine zv_ild hB zd115_120 rfl rfl ?_
            refine zv_ild hB zd115_121 rfl rfl ?_
            refine zv_ild hB zd115_123 rfl rfl ?_
            refine zv_ild hB zd115_125 rfl rfl ?_
            obtain ⟨r12, hr12, h⟩ := zi_bind h
            refine zv_cv hB (zv_emq (va2 := [.inr 0, .inl x1, .inl x6, .inl x4, .inl x8]) (F := [.inr 2, .inr 6, .inl f2]) (F' := [.inr 2, .inr 6, .inl f2]) (G := [g0, g1, g2, (zv_up g3 x4 x8), g4]) (G' := [r12.2, g1, g2, (zv_up g3 x4 x8), g4]) (ρ := [0, 1, 2, 3, 6]) (φ := [0, 1]) (ψ := [0, 1, 4]) [some 0, some 1, none] [some 0, some 1, none, none, some 2] zyw_Matcher_narrow zyw_Matcher_search zye_Matcher_search (by decide +kernel) (zt_Matcher_narrow hr12) ⟨⟨_, rfl, fun _ => rfl⟩, ⟨_, rfl, fun _ => rfl⟩, trivial⟩ ⟨rfl, rfl, rfl, trivial⟩ rfl rfl rfl rfl rfl rfl rfl) zd115_127 zxt117 rfl (by show 0 + 1 ≤ 2 + (dp + 1); omega) (by show 8 + (9 + 11) + 60 * (0) ≤ 60 * (2 + (dp + 1)); omega) rfl ?_
            refine zv_zeq hB zd115_130 rfl (fun hc13 => ?_) (fun hc13 => ?_)
            · rw [if_pos hc13] at h
              refine zv_ald hB zd115_178 rfl rfl rfl ?_
              refine zv_dup hB zd115_179 rfl ?_
              refine zv_getf hB zd115_180 rfl rfl (fun _ _ => ?_)
              refine zv_con hB zd115_183 rfl ?_
              refine zv_addw hB zd115_184 ?_
              refine zv_putf hB zd115_185 rfl rfl (fun h => by cases h) rfl ?_
              refine zv_iincw hB zd115_188 rfl rfl ?_
              refine zv_goto hB zd115_191 rfl ?_
              refine zv_wk hB (L' := [.inr 0, .inl x1, .inr 1000, .inl x3, .inl x4, .inl (zi_and x5 (zi_xor (g2 x8) (-1))), .inl x6, .inl x7, .inl (zi_w (x8 + 1)), .inr 1000]) (F' := [.inr 2, .inr 6, .inl (zi_w (f2 + 1))]) ⟨fun _ => rfl, fun _ => rfl, fun (h : zv_is (.inr 1000)) => (Nat.lt_irrefl 1000 h).elim, fun _ => rfl, fun _ => rfl, fun _ => rfl, fun _ => rfl, fun _ => rfl, fun _ => rfl, fun (h : zv_is (.inr 1000)) => (Nat.lt_irrefl 1000 h).elim, trivial⟩ ⟨fun _ => rfl, fun _ => rfl, fun _ => rfl, trivial⟩ ?_
              exact ih _ _ _ _ _ _ _ _ _ _ q h hK
            · rw [if_neg hc13] at h
              refine zv_ald hB zd115_133 rfl rfl rfl ?_
              refine zv_getf hB zd115_134 rfl rfl (fun _ _ => ?_)
              refine zv_con hB zd115_137 rfl ?_
              refine zv_clt hB zd115_139 rfl (fun hc14 => ?_) (fun hc14 => ?_)
              · rw [if_pos hc14] at h
                refine zv_ild hB zd115_154 rfl rfl ?_
                refine zv_ild hB zd115_156 rfl rfl ?_
                refine zv_ald hB zd115_158 rfl rfl rfl ?_
                refine zv_ild hB zd115_159 rfl rfl ?_
                refine zv_con hB zd115_160 rfl ?_
                refine zv_addw hB zd115_161 ?_
                refine zv_ild hB zd115_162 rfl rfl ?_
                refine zv_ild hB zd115_164 rfl rfl ?_
                refine zv_ild hB zd115_165 rfl rfl ?_
                refine zv_subw hB zd115_167 ?_
                obtain ⟨r15, hr15, h⟩ := zi_bind h
                refine zv_cv hB (show zv_Fn _ _ _ zy_Matcher_search _ _ [.inr 0, .inl (zi_w (x1 + 1)), .inl x6, .inl (zi_w (x3 - x7))] [.inr 2, .inr 6, .inl f2] [r12.2, g1, g2, (zv_up g3 x4 x8), g4] (some r15.1) [.inr 2, .inr 6, .inl r15.2.1] [r15.2.2.1, g1, g2, r15.2.2.2, g4] from ih0 _ _ _ _ _ _ _ _ _ r15 hr15) zd115_168 zxt115 rfl (by show 2 + dp + 1 ≤ 2 + (dp + 1); omega) (by show 8 + (10 + 11) + 60 * (2 + dp) ≤ 60 * (2 + (dp + 1)); omega) rfl ?_
                refine zv_mulw hB zd115_171 ?_
                refine zv_addw hB zd115_172 ?_
                refine zv_ist hB zd115_173 rfl rfl rfl ?_
                refine zv_goto hB zd115_175 rfl ?_
                refine zv_iincw hB zd115_188 rfl rfl ?_
                refine zv_goto hB zd115_191 rfl ?_
                refine zv_wk hB (L' := [.inr 0, .inl x1, .inr 1000, .inl x3, .inl x4, .inl (zi_and x5 (zi_xor (g2 x8) (-1))), .inl x6, .inl (zi_w (x7 + (zi_w (r10 * r15.1)))), .inl (zi_w (x8 + 1)), .inr 1000]) (F' := [.inr 2, .inr 6, .inl r15.2.1]) ⟨fun _ => rfl, fun _ => rfl, fun (h : zv_is (.inr 1000)) => (Nat.lt_irrefl 1000 h).elim, fun _ => rfl, fun _ => rfl, fun _ => rfl, fun _ => rfl, fun _ => rfl, fun _ => rfl, fun (h : zv_is (.inr 1000)) => (Nat.lt_irrefl 1000 h).elim, trivial⟩ ⟨fun _ => rfl, fun _ => rfl, fun _ => rfl, trivial⟩ ?_
                exact ih _ _ _ _ _ _ _ _ _ _ q h hK
              · rw [if_neg (Int.not_lt.mpr hc14)] at h
                refine zv_ald hB zd115_142 rfl rfl rfl ?_
                refine zv_ild hB zd115_143 rfl rfl ?_
                refine zv_con hB zd115_144 rfl ?_
                refine zv_addw hB zd115_145 ?_
                refine zv_ild hB zd115_146 rfl rfl ?_
                obtain ⟨r16, hr16, h⟩ := zi_bind h
                refine zv_cv hB (zv_emq (va2 := [.inr 0, .inl (zi_w (x1 + 1)), .inl x6]) (F := [.inr 2, .inr 6, .inl f2]) (F' := [.inr 2, .inr 6, .inl f2]) (G := [r12.2, g1, g2, (zv_up g3 x4 x8), g4]) (G' := [r16.2, g1, g2, (zv_up g3 x4 x8), g4]) (ρ := [0, 2, 3, 1, 6]) (φ := [0, 1]) (ψ := [1, 0, 4]) [some 0, some 1, none] [some 1, some 0, none, none, some 2] zyw_Matcher_agree zyw_Matcher_search zye_Matcher_search (by decide +kernel) (zt_Matcher_agree hr16) ⟨⟨_, rfl, fun _ => rfl⟩, ⟨_, rfl, fun _ => rfl⟩, trivial⟩ ⟨rfl, rfl, rfl, trivial⟩ rfl rfl rfl rfl rfl rfl rfl) zd115_148 zxt118 rfl (by show 1 + 1 ≤ 2 + (dp + 1); omega) (by show 8 + (10 + 11) + 60 * (1) ≤ 60 * (2 + (dp + 1)); omega) rfl ?_
                refine zv_zeq hB zd115_151 rfl (fun hc17 => ?_) (fun hc17 => ?_)
                · rw [if_pos hc17] at h
                  refine zv_ald hB zd115_178 rfl rfl rfl ?_
                  refine zv_dup hB zd115_179 rfl ?_
                  refine zv_getf hB zd115_180 rfl rfl (fun _ _ => ?_)
                  refine zv_con hB zd115_183 rfl ?_
                  refine zv_addw hB zd115_184 ?_
                  refine zv_putf hB zd115_185 rfl rfl (fun h => by cases h) rfl ?_
                  refine zv_iincw hB zd115_188 rfl rfl ?_
                  refine zv_goto hB zd115_191 rfl ?_
                  refine zv_wk hB (L' := [.inr 0, .inl x1, .inr 1000, .inl x3, .inl x4, .inl (zi_and x5 (zi_xor (g2 x8) (-1))), .inl x6, .inl x7, .inl (zi_w (x8 + 1)), .inr 1000]) (F' := [.inr 2, .inr 6, .inl (zi_w (f2 + 1))]) ⟨fun _ => rfl, fun _ => rfl, fun (h : zv_is (.inr 1000)) => (Nat.lt_irrefl 1000 h).elim, fun _ => rfl, fun _ => rfl, fun _ => rfl, fun _ => rfl, fun _ => rfl, fun _ => rfl, fun (h : zv_is (.inr 1000)) => (Nat.lt_irrefl 1000 h).elim, trivial⟩ ⟨fun _ => rfl, fun _ => rfl, fun _ => rfl, trivial⟩ ?_
                  exact ih _ _ _ _ _ _ _ _ _ _ q h hK
                · rw [if_neg hc17] at h
                  refine zv_ild hB zd115_154 rfl rfl ?_
                  refine zv_ild hB zd115_156 rfl rfl ?_
                  refine zv_ald hB zd115_158 rfl rfl rfl ?_
                  refine zv_ild hB zd115_159 rfl rfl ?_
                  refine zv_con hB zd115_160 rfl ?_
                  refine zv_addw hB zd115_161 ?_
                  refine zv_ild hB zd115_162 rfl rfl ?_
                  refine zv_ild hB zd115_164 rfl rfl ?_
                  refine zv_ild hB zd115_165 rfl rfl ?_
                  refine zv_subw hB zd115_167 ?_
                  obtain ⟨r18, hr18, h⟩ := zi_bind h
                  refine zv_cv hB (show zv_Fn _ _ _ zy_Matcher_search _ _ [.inr 0, .inl (zi_w (x1 + 1)), .inl x6, .inl (zi_w (x3 - x7))] [.inr 2, .inr 6, .inl f2] [r16.2, g1, g2, (zv_up g3 x4 x8), g4] (some r18.1) [.inr 2, .inr 6, .inl r18.2.1] [r18.2.2.1, g1, g2, r18.2.2.2, g4] from ih0 _ _ _ _ _ _ _ _ _ r18 hr18) zd115_168 zxt115 rfl (by show 2 + dp + 1 ≤ 2 + (dp + 1); omega) (by show 8 + (10 + 11) + 60 * (2 + dp) ≤ 60 * (2 + (dp + 1)); omega) rfl ?_
                  refine zv_mulw hB zd115_171 ?_
                  refine zv_addw hB zd115_172 ?_
                  refine zv_ist hB zd115_173 rfl rfl rfl ?_
                  refine zv_goto hB zd115_175 rfl ?_
                  refine zv_iincw hB zd115_188 rfl rfl ?_
                  refine zv_goto hB zd115_191 rfl ?_
                  refine zv_wk hB (L' := [.inr 0, .inl x1, .inr 1000, .inl x3, .inl x4, .inl (zi_and x5 (zi_xor (g2 x8) (-1))), .inl x6, .inl (zi_w (x7 + (zi_w (r10 * r18.1)))), .inl (zi_w (x8 + 1)), .inr 1000]) (F' := [.inr 2, .inr 6, .inl r18.2.1]) ⟨fun _ => rfl, fun _ => rfl, fun (h : zv_is (.inr 1000)) => (Nat.lt_irrefl 1000 h).elim, fun _ => rfl, fun _ => rfl, fun _ => rfl, fun _ => rfl, fun _ => rfl, fun _ => rfl, fun (h : zv_is (.inr 1000)) => (Nat.lt_irrefl 1000 h).elim, trivial⟩ ⟨fun _ => rfl, fun _ => rfl, fun _ => rfl, trivial⟩ ?_
                  exact ih _ _ _ _ _ _ _ _ _ _ q h hK
  unfold zm_Matcher_search at h
  refine zv_ild hB zd115_0 rfl rfl ?_
  refine zv_zeq hB zd115_1 rfl (fun hc1 => ?_) (fun hc1 => ?_)
  · rw [if_pos hc1] at h
    refine zv_ild hB zd115_10 rfl rfl ?_
    refine zv_zne hB zd115_11 rfl (fun hc => absurd hc (by omega)) (fun _ => ?_)
    refine zv_con hB zd115_14 rfl ?_
    refine zv_goto hB zd115_15 rfl ?_
    have hw := Option.some.inj h
    subst hw
    exact hret _ _ _ _ _ zd115_19 (by trivial) ⟨rfl, rfl, rfl⟩
  · rw [if_neg hc1] at h
    refine zv_ild hB zd115_4 rfl rfl ?_
    refine zv_con hB zd115_5 rfl ?_
    refine zv_clt hB zd115_7 rfl (fun hc3 => ?_) (fun hc3 => ?_)
    · rw [if_pos hc3] at h
      refine zv_ald hB zd115_20 rfl rfl rfl ?_
      refine zv_ild hB zd115_21 rfl rfl ?_
      refine zv_ild hB zd115_22 rfl rfl ?_
      obtain ⟨r4, hr4, h⟩ := zi_bind h
      refine zv_cv hB (zv_emq (va2 := [.inr 0, .inl x1, .inl x2]) (F := [.inr 2, .inr 6, .inl f2]) (F' := [.inr 2, .inr 6, .inl f2]) (G := [g0, g1, g2, g3, g4]) (G' := [g0, g1, g2, g3, g4]) (ρ := [0, 1, 2, 3]) (φ := [0]) (ψ := [0, 1]) [some 0, none, none] [some 0, some 1, none, none, none] zyw_Matcher_tightest zyw_Matcher_search zye_Matcher_search (by decide +kernel) (zt_Matcher_tightest hr4) ⟨⟨_, rfl, fun _ => rfl⟩, trivial⟩ ⟨rfl, rfl, trivial⟩ rfl rfl rfl rfl rfl rfl rfl) zd115_23 zxt116 rfl (by show 1 + 1 ≤ 2 + (dp + 1); omega) (by show 8 + (8 + 11) + 60 * (1) ≤ 60 * (2 + (dp + 1)); omega) rfl ?_
      refine zv_ist hB zd115_26 rfl rfl rfl ?_
      refine zv_ald hB zd115_28 rfl rfl rfl ?_
      refine zv_getr hB zd115_29 rfl ?_
      refine zv_ild hB zd115_32 rfl rfl ?_
      refine zv_con hB zd115_33 rfl ?_
      refine zv_mulw hB zd115_35 ?_
      refine zv_ild hB zd115_36 rfl rfl ?_
      refine zv_addw hB zd115_38 ?_
      obtain ⟨c5, h⟩ := zi_if h
      refine zv_iald hB zd115_39 rfl rfl (zi_ix_ok c5).1 (zi_ix_ok c5).2 (fun _ _ => ?_)
      refine zv_ist hB zd115_40 rfl rfl rfl ?_
      refine zv_ild hB zd115_42 rfl rfl ?_
      refine zv_con hB zd115_43 rfl ?_
      refine zv_ild hB zd115_44 rfl rfl ?_
      refine zv_shlw hB zd115_46 ?_
      refine zv_con hB zd115_47 rfl ?_
      refine zv_xorw hB zd115_48 ?_
      refine zv_andw hB zd115_49 ?_
      refine zv_ist hB zd115_50 rfl rfl rfl ?_
      refine zv_con hB zd115_52 rfl ?_
      refine zv_ist hB zd115_53 rfl rfl rfl ?_
      refine zv_con hB zd115_55 rfl ?_
      refine zv_ist hB zd115_56 rfl rfl rfl ?_
      obtain ⟨q19, hq19, h⟩ := zi_bind h
      refine zv_wk hB (L' := [.inr 0, .inl x1, .inr 1000, .inl x3, .inl r4, .inl (g0 (zi_w ((zi_w (x1 * 8)) + r4))), .inl (zi_and x2 (zi_xor (zi_shl 1 r4) (-1))), .inl 0, .inl 0, .inr 1000]) (F' := [.inr 2, .inr 6, .inl f2]) ⟨fun _ => rfl, fun _ => rfl, fun (h : zv_is (.inr 1000)) => (Nat.lt_irrefl 1000 h).elim, fun _ => rfl, fun _ => rfl, fun _ => rfl, fun _ => rfl, fun _ => rfl, fun _ => rfl, fun (h : zv_is (.inr 1000)) => (Nat.lt_irrefl 1000 h).elim, trivial⟩ ⟨fun _ => rfl, fun _ => rfl, fun _ => rfl, trivial⟩ ?_
      refine l0 _ _ _ _ _ _ _ _ _ _ _ q19 hq19 ?_
      show good 194 [.inr 1000, .inr 1000, .inr 1000, .inl x3, .inr 1000, .inr 1000, .inr 1000, .inl q19.1, .inr 1000, .inr 1000] [] [.inr 2, .inr 6, .inl q19.2.1] [q19.2.2.1, g1, g2, q19.2.2.2, g4]
      refine zv_ild hB zd115_194 rfl rfl ?_
      refine zv_ild hB zd115_196 rfl rfl ?_
      obtain ⟨r20, hr20, h⟩ := zi_bind h
      refine zv_cs hB (zv_emq (va2 := [.inl q19.1, .inl x3]) (F := [.inr 2, .inr 6, .inl q19.2.1]) (F' := [.inr 2, .inr 6, .inl q19.2.1]) (G := [q19.2.2.1, g1, g2, q19.2.2.2, g4]) (G' := [q19.2.2.1, g1, g2, q19.2.2.2, g4]) (ρ := []) (φ := []) (ψ := []) [none, none, none] [none, none, none, none, none] zyw_Math_min zyw_Matcher_search zye_Matcher_search (by decide +kernel) (zt_Math_min hr20) trivial trivial rfl rfl rfl rfl rfl rfl rfl) zd115_197 zxt37 rfl (by show 0 + 1 ≤ 2 + (dp + 1); omega) (by show 8 + (2 + 11) + 60 * (0) ≤ 60 * (2 + (dp + 1)); omega) rfl ?_
      have hw := Option.some.inj h
      subst hw
      exact hret _ _ _ _ _ zd115_200 (by trivial) ⟨rfl, rfl, rfl⟩
    · rw [if_neg (Int.not_lt.mpr hc3)] at h
      refine zv_ild hB zd115_10 rfl rfl ?_
      refine zv_zne hB zd115_11 rfl (fun _ => ?_) (fun hc => absurd hc (by omega))
      refine zv_con hB zd115_18 rfl ?_
      have hw := Option.some.inj h
      subst hw
      exact hret _ _ _ _ _ zd115_19 (by trivial) ⟨rfl, rfl, rfl⟩
def zg_Matcher_search : Nat → Nat → Int → Int → Int → Int → (Int → Int) → (Int → Int) → (Int → Int) → (Int → Int) → (Int → Int) → Option (Int × Int × (Int → Int) × (Int → Int))
  | 0, _, _, _, _, _, _, _, _, _, _ => none
  | n + 1, _, x1, x2, x3, f2, g0, g1, g2, g3, g4 => zm_Matcher_search (zg_Matcher_search n) x1 x2 x3 f2 g0 g1 g2 g3 g4
theorem ztg_Matcher_search : ∀ n : Nat, (∀ (x1 : Int) (x2 : Int) (x3 : Int) (f2 : Int) (g0 : (Int → Int)) (g1 : (Int → Int)) (g2 : (Int → Int)) (g3 : (Int → Int)) (g4 : (Int → Int)) (o : Int × Int × (Int → Int) × (Int → Int)), zg_Matcher_search n 0 x1 x2 x3 f2 g0 g1 g2 g3 g4 = some o → zv_Fn z_TB z_cl z_KX zy_Matcher_search zxm115 (2 + n, 60 * (2 + n)) [.inr 0, .inl x1, .inl x2, .inl x3] [.inr 2, .inr 6, .inl f2] [g0, g1, g2, g3, g4] (some o.1) [.inr 2, .inr 6, .inl o.2.1] [o.2.2.1, g1, g2, o.2.2.2, g4]) := by
  intro n
  induction n with
  | zero => exact fun _ _ _ _ _ _ _ _ _ o h => absurd (show none = some o from h) (fun h => by cases h)
  | succ n ih =>
    have ih0 := ih
    exact fun _ _ _ _ _ _ _ _ _ o h => zts_Matcher_search (rc := zg_Matcher_search n) ih0 h
def zf_Matcher_search (x1 : Int) (x2 : Int) (x3 : Int) (f2 : Int) (g0 : (Int → Int)) (g1 : (Int → Int)) (g2 : (Int → Int)) (g3 : (Int → Int)) (g4 : (Int → Int)) : Option (Int × Int × (Int → Int) × (Int → Int)) := zg_Matcher_search 9 0 x1 x2 x3 f2 g0 g1 g2 g3 g4
theorem zt_Matcher_search {x1 : Int} {x2 : Int} {x3 : Int} {f2 : Int} {g0 : (Int → Int)} {g1 : (Int → Int)} {g2 : (Int → Int)} {g3 : (Int → Int)} {g4 : (Int → Int)} {o : Int × Int × (Int → Int) × (Int → Int)} (h : zf_Matcher_search x1 x2 x3 f2 g0 g1 g2 g3 g4 = some o) : zv_Fn z_TB z_cl z_KX zy_Matcher_search zxm115 (11, 660) [.inr 0, .inl x1, .inl x2, .inl x3] [.inr 2, .inr 6, .inl f2] [g0, g1, g2, g3, g4] (some o.1) [.inr 2, .inr 6, .inl o.2.1] [o.2.2.1, g1, g2, o.2.2.2, g4] := (ztg_Matcher_search 9) _ _ _ _ _ _ _ _ _ o h
/-! Matcher_settleLowest (I)Z -/
-- names: 0 Matcher('arg', 0), 1 (0, 72)(0, 8, 0), 2 Tale(0, 8, 3), 3 (0, 8)(2, 6, 2), 4 (0, 24)(0, 8, 1), 5 (0, 8)(0, 8, 2), 6 (0, 24)(0, 8, 4)
-- fields: f0 = 0.tale_, f1 = 2.names_, f2 = 0.joined_, f3 = 0.deadEnds_; arrays: g0 = 1, g1 = 3, g2 = 4, g3 = 5, g4 = 6; out: [('ret', None), ('f', 3), ('g', 0), ('g', 3)]
abbrev zy_Matcher_settleLowest : zNL := (7, [(0, 8), (2, 6)], [(0, 8, 3, 0), (2, 6, 1, 1), (0, 8, 4, 2), (0, 8, 6, 3)], [(0, 8, 0, 1), (2, 6, 2, 3), (0, 8, 1, 4), (0, 8, 2, 5)], [(1, 0, 72, 0), (3, 0, 8, 1), (4, 0, 24, 2), (5, 0, 8, 3), (6, 0, 24, 4)])
theorem zyw_Matcher_settleLowest : zv_wf zy_Matcher_settleLowest = true := by decide +kernel
theorem zye_Matcher_settleLowest : zv_ek2 zy_Matcher_settleLowest = true := by decide +kernel
def zf_Matcher_settleLowest_l0_b (x1 : Int) (x2 : Int) (f1 : Int) (g1 : (Int → Int)) (g2 : (Int → Int)) (g4 : (Int → Int)) (rec : Int → Int → (Int → Int) → (Int → Int) → Option (((Int × (Int → Int) × (Int → Int)) ⊕ (Int × Int × (Int → Int) × (Int → Int))))) (x3 : Int) (f3 : Int) (g0 : (Int → Int)) (g3 : (Int → Int)) : Option (((Int × (Int → Int) × (Int → Int)) ⊕ (Int × Int × (Int → Int) × (Int → Int)))) := if x3 < 24 then (if (zi_and (zi_shr x2 x3) 1) = 0 then (rec (zi_w (x3 + 1)) f3 g0 g3) else (cond (zi_ix x1 72) ((zf_Matcher_search 0 f1 1 f3 (zv_up g0 x1 (zi_shl 1 x3)) g1 g2 g3 g4).bind fun r5 => (if 0 < r5.1 then (some (.inr (1, r5.2.1, r5.2.2.1, r5.2.2.2))) else (rec (zi_w (x3 + 1)) r5.2.1 r5.2.2.1 r5.2.2.2))) none)) else (some (.inl (f3, g0, g3)))
def zf_Matcher_settleLowest_l0 (x1 : Int) (x2 : Int) (f1 : Int) (g1 : (Int → Int)) (g2 : (Int → Int)) (g4 : (Int → Int)) : Nat → Int → Int → (Int → Int) → (Int → Int) → Option (((Int × (Int → Int) × (Int → Int)) ⊕ (Int × Int × (Int → Int) × (Int → Int))))
  | 0, _, _, _, _ => none
  | n + 1, x3, f3, g0, g3 => zf_Matcher_settleLowest_l0_b x1 x2 f1 g1 g2 g4 (zf_Matcher_settleLowest_l0 x1 x2 f1 g1 g2 g4 n) x3 f3 g0 g3
def zf_Matcher_settleLowest (x1 : Int) (f1 : Int) (f3 : Int) (g0 : (Int → Int)) (g1 : (Int → Int)) (g2 : (Int → Int)) (g3 : (Int → Int)) (g4 : (Int → Int)) : Option (Int × Int × (Int → Int) × (Int → Int)) := cond (zi_ix x1 72) ((zf_Matcher_settleLowest_l0 x1 (g0 x1) f1 g1 g2 g4 zi_fu 0 f3 g0 g3).bind fun q7 => Sum.elim (fun e8 => (some (0, e8.1, e8.2.1, e8.2.2))) (fun w9 => some w9) q7) none
theorem zd121_0 : decode zxm121.2.1 0 = .ok (.aload_n 0, 1) := by decide +kernel
theorem zd121_1 : decode zxm121.2.1 1 = .ok (.getfield 11, 3) := by decide +kernel
theorem zd121_4 : decode zxm121.2.1 4 = .ok (.iload_n 1, 1) := by decide +kernel
theorem zd121_5 : decode zxm121.2.1 5 = .ok (.iaload, 1) := by decide +kernel
theorem zd121_6 : decode zxm121.2.1 6 = .ok (.istore_n 2, 1) := by decide +kernel
theorem zd121_7 : decode zxm121.2.1 7 = .ok (.iconst 0, 1) := by decide +kernel
theorem zd121_8 : decode zxm121.2.1 8 = .ok (.istore_n 3, 1) := by decide +kernel
theorem zd121_9 : decode zxm121.2.1 9 = .ok (.iload_n 3, 1) := by decide +kernel
theorem zd121_10 : decode zxm121.2.1 10 = .ok (.bipush 24, 2) := by decide +kernel
theorem zd121_12 : decode zxm121.2.1 12 = .ok (.if_icmp .ge 44, 3) := by decide +kernel
theorem zd121_15 : decode zxm121.2.1 15 = .ok (.iload_n 2, 1) := by decide +kernel
theorem zd121_16 : decode zxm121.2.1 16 = .ok (.iload_n 3, 1) := by decide +kernel
theorem zd121_17 : decode zxm121.2.1 17 = .ok (.ishr, 1) := by decide +kernel
theorem zd121_18 : decode zxm121.2.1 18 = .ok (.iconst 1, 1) := by decide +kernel
theorem zd121_19 : decode zxm121.2.1 19 = .ok (.iand, 1) := by decide +kernel
theorem zd121_20 : decode zxm121.2.1 20 = .ok (.ifCond .eq 30, 3) := by decide +kernel
theorem zd121_23 : decode zxm121.2.1 23 = .ok (.aload_n 0, 1) := by decide +kernel
theorem zd121_24 : decode zxm121.2.1 24 = .ok (.getfield 11, 3) := by decide +kernel
theorem zd121_27 : decode zxm121.2.1 27 = .ok (.iload_n 1, 1) := by decide +kernel
theorem zd121_28 : decode zxm121.2.1 28 = .ok (.iconst 1, 1) := by decide +kernel
theorem zd121_29 : decode zxm121.2.1 29 = .ok (.iload_n 3, 1) := by decide +kernel
theorem zd121_30 : decode zxm121.2.1 30 = .ok (.ishl, 1) := by decide +kernel
theorem zd121_31 : decode zxm121.2.1 31 = .ok (.iastore, 1) := by decide +kernel
theorem zd121_32 : decode zxm121.2.1 32 = .ok (.aload_n 0, 1) := by decide +kernel
theorem zd121_33 : decode zxm121.2.1 33 = .ok (.iconst 0, 1) := by decide +kernel
theorem zd121_34 : decode zxm121.2.1 34 = .ok (.aload_n 0, 1) := by decide +kernel
theorem zd121_35 : decode zxm121.2.1 35 = .ok (.getfield 30, 3) := by decide +kernel
theorem zd121_38 : decode zxm121.2.1 38 = .ok (.getfield 41, 3) := by decide +kernel
theorem zd121_41 : decode zxm121.2.1 41 = .ok (.iconst 1, 1) := by decide +kernel
theorem zd121_42 : decode zxm121.2.1 42 = .ok (.invokevirtual 44, 3) := by decide +kernel
theorem zd121_45 : decode zxm121.2.1 45 = .ok (.ifCond .le 5, 3) := by decide +kernel
theorem zd121_48 : decode zxm121.2.1 48 = .ok (.iconst 1, 1) := by decide +kernel
theorem zd121_49 : decode zxm121.2.1 49 = .ok (.ireturn, 1) := by decide +kernel
theorem zd121_50 : decode zxm121.2.1 50 = .ok (.iinc 3 1, 3) := by decide +kernel
theorem zd121_53 : decode zxm121.2.1 53 = .ok (.goto (-44), 3) := by decide +kernel
theorem zd121_56 : decode zxm121.2.1 56 = .ok (.iconst 0, 1) := by decide +kernel
theorem zd121_57 : decode zxm121.2.1 57 = .ok (.ireturn, 1) := by decide +kernel
theorem zt_Matcher_settleLowest {x1 : Int} {f1 : Int} {f3 : Int} {g0 : (Int → Int)} {g1 : (Int → Int)} {g2 : (Int → Int)} {g3 : (Int → Int)} {g4 : (Int → Int)} {o : Int × Int × (Int → Int) × (Int → Int)} (h : zf_Matcher_settleLowest x1 f1 f3 g0 g1 g2 g3 g4 = some o) : zv_Fn z_TB z_cl z_KX zy_Matcher_settleLowest zxm121 (12, 720) [.inr 0, .inl x1] [.inr 2, .inl f1, .inr 6, .inl f3] [g0, g1, g2, g3, g4] (some o.1) [.inr 2, .inl f1, .inr 6, .inl o.2.1] [o.2.2.1, g1, g2, o.2.2.2, g4] := zv_meth (K := (z_KF4, z_KC4, z_KL4, z_KT4, [], [], [], none)) (FT := z_FT) (MT := z_MT) (n := 2) zxp121 (z_ks4 _ (fun _ h => List.mem_cons_of_mem _ h) _ _ _ _ (fun j r h _ => by cases h)) (fun _ _ => zs_KX_p) zyw_Matcher_settleLowest (fun va F G h => by obtain ⟨rfl, _⟩ := h; rfl) (fun va F G h => by obtain ⟨rfl, _⟩ := h; rfl) rfl fun good va F G hB hret hvret hP => by
  obtain ⟨rfl, rfl, rfl⟩ := hP
  have l0 : ∀ (n : Nat) (x1 : Int) (x2 : Int) (x3 : Int) (f3 : Int) (g0 : (Int → Int)) (g3 : (Int → Int)) (q : ((Int × (Int → Int) × (Int → Int)) ⊕ (Int × Int × (Int → Int) × (Int → Int)))), zf_Matcher_settleLowest_l0 x1 x2 f1 g1 g2 g4 n x3 f3 g0 g3 = some q → (Sum.elim (fun e : Int × (Int → Int) × (Int → Int) => good 56 [.inr 1000, .inr 1000, .inr 1000, .inr 1000] [] [.inr 2, .inl f1, .inr 6, .inl e.1] [e.2.1, g1, g2, e.2.2, g4]) (fun w : Int × Int × (Int → Int) × (Int → Int) => w = o) q) → good 9 [.inr 0, .inl x1, .inl x2, .inl x3] [] [.inr 2, .inl f1, .inr 6, .inl f3] [g0, g1, g2, g3, g4] := by
    intro n
    induction n with
    | zero => intro x1 x2 x3 f3 g0 g3 q h; exact absurd (show none = some q from h) (fun h => by cases h)
    | succ n ih =>
      intro x1 x2 x3 f3 g0 g3 q h hK
      replace h : zf_Matcher_settleLowest_l0_b x1 x2 f1 g1 g2 g4 (zf_Matcher_settleLowest_l0 x1 x2 f1 g1 g2 g4 n) x3 f3 g0 g3 = some q := h
      unfold zf_Matcher_settleLowest_l0_b at h
      refine zv_ild hB zd121_9 rfl rfl ?_
      refine zv_con hB zd121_10 rfl ?_
      refine zv_cge hB zd121_12 rfl (fun hc2 => ?_) (fun hc2 => ?_)
      · rw [if_neg (Int.not_lt.mpr hc2)] at h
        have hq := Option.some.inj h
        subst hq
        refine zv_wk hB (L' := [.inr 1000, .inr 1000, .inr 1000, .inr 1000]) (F' := [.inr 2, .inl f1, .inr 6, .inl f3]) ⟨fun (h : zv_is (.inr 1000)) => (Nat.lt_irrefl 1000 h).elim, fun (h : zv_is (.inr 1000)) => (Nat.lt_irrefl 1000 h).elim, fun (h : zv_is (.inr 1000)) => (Nat.lt_irrefl 1000 h).elim, fun (h : zv_is (.inr 1000)) => (Nat.lt_irrefl 1000 h).elim, trivial⟩ ⟨fun _ => rfl, fun _ => rfl, fun _ => rfl, fun _ => rfl, trivial⟩ ?_
        exact hK
      · rw [if_pos hc2] at h
        refine zv_ild hB zd121_15 rfl rfl ?_
        refine zv_ild hB zd121_16 rfl rfl ?_
        refine zv_shrw hB zd121_17 ?_
        refine zv_con hB zd121_18 rfl ?_
        refine zv_andw hB zd121_19 ?_
        refine zv_zeq hB zd121_20 rfl (fun hc3 => ?_) (fun hc3 => ?_)
        · rw [if_pos hc3] at h
          refine zv_iincw hB zd121_50 rfl rfl ?_
          refine zv_goto hB zd121_53 rfl ?_
          exact ih _ _ _ _ _ _ q h hK
        · rw [if_neg hc3] at h
          refine zv_ald hB zd121_23 rfl rfl rfl ?_
          refine zv_getr hB zd121_24 rfl ?_
          refine zv_ild hB zd121_27 rfl rfl ?_
          refine zv_con hB zd121_28 rfl ?_
          refine zv_ild hB zd121_29 rfl rfl ?_
          refine zv_shlw hB zd121_30 ?_
          obtain ⟨c4, h⟩ := zi_if h
          refine zv_iast hB zd121_31 rfl rfl (zi_ix_ok c4).1 (zi_ix_ok c4).2 ?_
          refine zv_ald hB zd121_32 rfl rfl rfl ?_
          refine zv_con hB zd121_33 rfl ?_
          refine zv_ald hB zd121_34 rfl rfl rfl ?_
          refine zv_getq hB zd121_35 rfl rfl rfl ?_
          refine zv_getf hB zd121_38 rfl rfl (fun _ _ => ?_)
          refine zv_con hB zd121_41 rfl ?_
          obtain ⟨r5, hr5, h⟩ := zi_bind h
          refine zv_cv hB (zv_emq (va2 := [.inr 0, .inl 0, .inl f1, .inl 1]) (F := [.inr 2, .inl f1, .inr 6, .inl f3]) (F' := [.inr 2, .inl f1, .inr 6, .inl r5.2.1]) (G := [(zv_up g0 x1 (zi_shl 1 x3)), g1, g2, g3, g4]) (G' := [r5.2.2.1, g1, g2, r5.2.2.2, g4]) (ρ := [0, 1, 2, 3, 4, 5, 6]) (φ := [0, 2, 3]) (ψ := [0, 1, 2, 3, 4]) [some 0, none, some 1, some 2] [some 0, some 1, some 2, some 3, some 4] zyw_Matcher_search zyw_Matcher_settleLowest zye_Matcher_settleLowest (by decide +kernel) (zt_Matcher_search hr5) ⟨⟨_, rfl, fun _ => rfl⟩, ⟨_, rfl, fun _ => rfl⟩, ⟨_, rfl, fun _ => rfl⟩, trivial⟩ ⟨rfl, rfl, rfl, rfl, rfl, trivial⟩ rfl rfl rfl rfl rfl rfl rfl) zd121_42 zxt115 rfl (by decide) (by decide) rfl ?_
          refine zv_zle hB zd121_45 rfl (fun hc6 => ?_) (fun hc6 => ?_)
          · rw [if_neg (Int.not_lt.mpr hc6)] at h
            refine zv_iincw hB zd121_50 rfl rfl ?_
            refine zv_goto hB zd121_53 rfl ?_
            exact ih _ _ _ _ _ _ q h hK
          · rw [if_pos hc6] at h
            refine zv_con hB zd121_48 rfl ?_
            have hw : (1, r5.2.1, r5.2.2.1, r5.2.2.2) = o := zi_rk (Option.some.inj h) hK
            subst hw
            exact hret _ _ _ _ _ zd121_49 (by constructor <;> decide) ⟨rfl, rfl, rfl⟩
  unfold zf_Matcher_settleLowest at h
  refine zv_ald hB zd121_0 rfl rfl rfl ?_
  refine zv_getr hB zd121_1 rfl ?_
  refine zv_ild hB zd121_4 rfl rfl ?_
  obtain ⟨c1, h⟩ := zi_if h
  refine zv_iald hB zd121_5 rfl rfl (zi_ix_ok c1).1 (zi_ix_ok c1).2 (fun _ _ => ?_)
  refine zv_ist hB zd121_6 rfl rfl rfl ?_
  refine zv_con hB zd121_7 rfl ?_
  refine zv_ist hB zd121_8 rfl rfl rfl ?_
  obtain ⟨q7, hq7, h⟩ := zi_bind h
  refine l0 _ _ _ _ _ _ _ q7 hq7 ?_
  rcases q7 with e8 | w9
  · replace h := zi_sl h
    show good 56 [.inr 1000, .inr 1000, .inr 1000, .inr 1000] [] [.inr 2, .inl f1, .inr 6, .inl e8.1] [e8.2.1, g1, g2, e8.2.2, g4]
    refine zv_con hB zd121_56 rfl ?_
    have hw := Option.some.inj h
    subst hw
    exact hret _ _ _ _ _ zd121_57 (by constructor <;> decide) ⟨rfl, rfl, rfl⟩
  · exact Option.some.inj h
/-! Matcher_findFirst_24 (LStarTales$Tale;I[I)Z -/
-- names: 0 Matcher('arg', 0), 1 Tale('arg', 1), 2 (0, 24)('arg', 3), 3 (0, 72)(0, 8, 0), 4 (0, 8)(1, 6, 2), 5 (0, 24)(0, 8, 1), 6 (0, 8)(0, 8, 2)
-- fields: f0 = 0.tale_, f1 = 0.joined_, f2 = 0.deadEnds_, f3 = 1.names_; arrays: g0 = 2, g1 = 3, g2 = 4, g3 = 5, g4 = 6; out: [('ret', None), ('f', 2), ('g', 1), ('g', 3), ('g', 4)]
abbrev zy_Matcher_findFirst_24 : zNL := (7, [(0, 8), (1, 6)], [(0, 8, 3, 0), (0, 8, 4, 1), (0, 8, 6, 2), (1, 6, 1, 3)], [(0, 8, 0, 3), (1, 6, 2, 4), (0, 8, 1, 5), (0, 8, 2, 6)], [(2, 0, 24, 0), (3, 0, 72, 1), (4, 0, 8, 2), (5, 0, 24, 3), (6, 0, 8, 4)])
theorem zyw_Matcher_findFirst_24 : zv_wf zy_Matcher_findFirst_24 = true := by decide +kernel
theorem zye_Matcher_findFirst_24 : zv_ek2 zy_Matcher_findFirst_24 = true := by decide +kernel
def zf_Matcher_findFirst_24_l0_b (f3 : Int) (g0 : (Int → Int)) (g2 : (Int → Int)) (g3 : (Int → Int)) (rec : Int → Int → (Int → Int) → (Int → Int) → Option (((Int × (Int → Int) × (Int → Int)) ⊕ (Int × Int × (Int → Int) × (Int → Int) × (Int → Int))))) (x4 : Int) (f2 : Int) (g1 : (Int → Int)) (g4 : (Int → Int)) : Option (((Int × (Int → Int) × (Int → Int)) ⊕ (Int × Int × (Int → Int) × (Int → Int) × (Int → Int)))) := if x4 < 8 then (if (zi_and (zi_shr f3 x4) 1) = 0 then (rec (zi_w (x4 + 1)) f2 g1 g4) else ((zf_Matcher_settleLowest x4 f3 f2 g1 g2 g3 g4 g0).bind fun r4 => (if r4.1 = 0 then (some (.inr (0, r4.2.1, r4.2.2.1, g3, r4.2.2.2))) else (rec (zi_w (x4 + 1)) r4.2.1 r4.2.2.1 r4.2.2.2)))) else (some (.inl (f2, g1, g4)))
def zf_Matcher_findFirst_24_l0 (f3 : Int) (g0 : (Int → Int)) (g2 : (Int → Int)) (g3 : (Int → Int)) : Nat → Int → Int → (Int → Int) → (Int → Int) → Option (((Int × (Int → Int) × (Int → Int)) ⊕ (Int × Int × (Int → Int) × (Int → Int) × (Int → Int))))
  | 0, _, _, _, _ => none
  | n + 1, x4, f2, g1, g4 => zf_Matcher_findFirst_24_l0_b f3 g0 g2 g3 (zf_Matcher_findFirst_24_l0 f3 g0 g2 g3 n) x4 f2 g1 g4
def zf_Matcher_findFirst_24 (x2 : Int) (f2 : Int) (f3 : Int) (g0 : (Int → Int)) (g1 : (Int → Int)) (g2 : (Int → Int)) (g3 : (Int → Int)) (g4 : (Int → Int)) : Option (Int × Int × (Int → Int) × (Int → Int) × (Int → Int)) := (zf_Matcher_begin_24 x2 f2 g0 g1 g2 g3).bind fun r1 => ((zf_Matcher_findFirst_24_l0 f3 g0 g2 r1.2.2 zi_fu 0 r1.1 r1.2.1 g4).bind fun q6 => Sum.elim (fun e7 => (some (1, e7.1, e7.2.1, r1.2.2, e7.2.2))) (fun w8 => some w8) q6)
theorem zd120_0 : decode zxm120.2.1 0 = .ok (.aload_n 0, 1) := by decide +kernel
theorem zd120_1 : decode zxm120.2.1 1 = .ok (.aload_n 1, 1) := by decide +kernel
theorem zd120_2 : decode zxm120.2.1 2 = .ok (.iload_n 2, 1) := by decide +kernel
theorem zd120_3 : decode zxm120.2.1 3 = .ok (.aload_n 3, 1) := by decide +kernel
theorem zd120_4 : decode zxm120.2.1 4 = .ok (.invokevirtual 37, 3) := by decide +kernel
theorem zd120_7 : decode zxm120.2.1 7 = .ok (.iconst 0, 1) := by decide +kernel
theorem zd120_8 : decode zxm120.2.1 8 = .ok (.istore 4, 2) := by decide +kernel
theorem zd120_10 : decode zxm120.2.1 10 = .ok (.iload 4, 2) := by decide +kernel
theorem zd120_12 : decode zxm120.2.1 12 = .ok (.bipush 8, 2) := by decide +kernel
theorem zd120_14 : decode zxm120.2.1 14 = .ok (.if_icmp .ge 35, 3) := by decide +kernel
theorem zd120_17 : decode zxm120.2.1 17 = .ok (.aload_n 0, 1) := by decide +kernel
theorem zd120_18 : decode zxm120.2.1 18 = .ok (.getfield 30, 3) := by decide +kernel
theorem zd120_21 : decode zxm120.2.1 21 = .ok (.getfield 41, 3) := by decide +kernel
theorem zd120_24 : decode zxm120.2.1 24 = .ok (.iload 4, 2) := by decide +kernel
theorem zd120_26 : decode zxm120.2.1 26 = .ok (.ishr, 1) := by decide +kernel
theorem zd120_27 : decode zxm120.2.1 27 = .ok (.iconst 1, 1) := by decide +kernel
theorem zd120_28 : decode zxm120.2.1 28 = .ok (.iand, 1) := by decide +kernel
theorem zd120_29 : decode zxm120.2.1 29 = .ok (.ifCond .eq 14, 3) := by decide +kernel
theorem zd120_32 : decode zxm120.2.1 32 = .ok (.aload_n 0, 1) := by decide +kernel
theorem zd120_33 : decode zxm120.2.1 33 = .ok (.iload 4, 2) := by decide +kernel
theorem zd120_35 : decode zxm120.2.1 35 = .ok (.invokevirtual 48, 3) := by decide +kernel
theorem zd120_38 : decode zxm120.2.1 38 = .ok (.ifCond .ne 5, 3) := by decide +kernel
theorem zd120_41 : decode zxm120.2.1 41 = .ok (.iconst 0, 1) := by decide +kernel
theorem zd120_42 : decode zxm120.2.1 42 = .ok (.ireturn, 1) := by decide +kernel
theorem zd120_43 : decode zxm120.2.1 43 = .ok (.iinc 4 1, 3) := by decide +kernel
theorem zd120_46 : decode zxm120.2.1 46 = .ok (.goto (-36), 3) := by decide +kernel
theorem zd120_49 : decode zxm120.2.1 49 = .ok (.iconst 1, 1) := by decide +kernel
theorem zd120_50 : decode zxm120.2.1 50 = .ok (.ireturn, 1) := by decide +kernel
theorem zt_Matcher_findFirst_24 {x2 : Int} {f2 : Int} {f3 : Int} {g0 : (Int → Int)} {g1 : (Int → Int)} {g2 : (Int → Int)} {g3 : (Int → Int)} {g4 : (Int → Int)} {o : Int × Int × (Int → Int) × (Int → Int) × (Int → Int)} (h : zf_Matcher_findFirst_24 x2 f2 f3 g0 g1 g2 g3 g4 = some o) : zv_Fn z_TB z_cl z_KX zy_Matcher_findFirst_24 zxm120 (13, 780) [.inr 0, .inr 1, .inl x2, .inr 2] [.inr 1000, .inr 1000, .inl f2, .inl f3] [g0, g1, g2, g3, g4] (some o.1) [.inr 1, .inr 2, .inl o.2.1, .inl f3] [g0, o.2.2.1, g2, o.2.2.2.1, o.2.2.2.2] := zv_meth (K := (z_KF4, z_KC4, z_KL4, z_KT4, [], [], [], none)) (FT := z_FT) (MT := z_MT) (n := 4) zxp120 (z_ks4 _ (fun _ h => List.mem_cons_of_mem _ h) _ _ _ _ (fun j r h _ => by cases h)) (fun _ _ => zs_KX_p) zyw_Matcher_findFirst_24 (fun va F G h => by obtain ⟨rfl, _⟩ := h; rfl) (fun va F G h => by obtain ⟨rfl, _⟩ := h; rfl) rfl fun good va F G hB hret hvret hP => by
  obtain ⟨rfl, rfl, rfl⟩ := hP
  have l0 : ∀ (n : Nat) (x4 : Int) (f2 : Int) (g1 : (Int → Int)) (g3 : (Int → Int)) (g4 : (Int → Int)) (q : ((Int × (Int → Int) × (Int → Int)) ⊕ (Int × Int × (Int → Int) × (Int → Int) × (Int → Int)))), zf_Matcher_findFirst_24_l0 f3 g0 g2 g3 n x4 f2 g1 g4 = some q → (Sum.elim (fun e : Int × (Int → Int) × (Int → Int) => good 49 [.inr 1000, .inr 1000, .inr 1000, .inr 1000, .inr 1000] [] [.inr 1, .inr 2, .inl e.1, .inl f3] [g0, e.2.1, g2, g3, e.2.2]) (fun w : Int × Int × (Int → Int) × (Int → Int) × (Int → Int) => w = o) q) → good 10 [.inr 0, .inr 1000, .inr 1000, .inr 1000, .inl x4] [] [.inr 1, .inr 2, .inl f2, .inl f3] [g0, g1, g2, g3, g4] := by
    intro n
    induction n with
    | zero => intro x4 f2 g1 g3 g4 q h; exact absurd (show none = some q from h) (fun h => by cases h)
    | succ n ih =>
      intro x4 f2 g1 g3 g4 q h hK
      replace h : zf_Matcher_findFirst_24_l0_b f3 g0 g2 g3 (zf_Matcher_findFirst_24_l0 f3 g0 g2 g3 n) x4 f2 g1 g4 = some q := h
      unfold zf_Matcher_findFirst_24_l0_b at h
      refine zv_ild hB zd120_10 rfl rfl ?_
      refine zv_con hB zd120_12 rfl ?_
      refine zv_cge hB zd120_14 rfl (fun hc2 => ?_) (fun hc2 => ?_)
      · rw [if_neg (Int.not_lt.mpr hc2)] at h
        have hq := Option.some.inj h
        subst hq
        refine zv_wk hB (L' := [.inr 1000, .inr 1000, .inr 1000, .inr 1000, .inr 1000]) (F' := [.inr 1, .inr 2, .inl f2, .inl f3]) ⟨fun (h : zv_is (.inr 1000)) => (Nat.lt_irrefl 1000 h).elim, fun (h : zv_is (.inr 1000)) => (Nat.lt_irrefl 1000 h).elim, fun (h : zv_is (.inr 1000)) => (Nat.lt_irrefl 1000 h).elim, fun (h : zv_is (.inr 1000)) => (Nat.lt_irrefl 1000 h).elim, fun (h : zv_is (.inr 1000)) => (Nat.lt_irrefl 1000 h).elim, trivial⟩ ⟨fun _ => rfl, fun _ => rfl, fun _ => rfl, fun _ => rfl, trivial⟩ ?_
        exact hK
      · rw [if_pos hc2] at h
        refine zv_ald hB zd120_17 rfl rfl rfl ?_
        refine zv_getq hB zd120_18 rfl rfl rfl ?_
        refine zv_getf hB zd120_21 rfl rfl (fun _ _ => ?_)
        refine zv_ild hB zd120_24 rfl rfl ?_
        refine zv_shrw hB zd120_26 ?_
        refine zv_con hB zd120_27 rfl ?_
        refine zv_andw hB zd120_28 ?_
        refine zv_zeq hB zd120_29 rfl (fun hc3 => ?_) (fun hc3 => ?_)
        · rw [if_pos hc3] at h
          refine zv_iincw hB zd120_43 rfl rfl ?_
          refine zv_goto hB zd120_46 rfl ?_
          exact ih _ _ _ _ _ q h hK
        · rw [if_neg hc3] at h
          refine zv_ald hB zd120_32 rfl rfl rfl ?_
          refine zv_ild hB zd120_33 rfl rfl ?_
          obtain ⟨r4, hr4, h⟩ := zi_bind h
          refine zv_cv hB (zv_emq (va2 := [.inr 0, .inl x4]) (F := [.inr 1, .inr 2, .inl f2, .inl f3]) (F' := [.inr 1, .inr 2, .inl r4.2.1, .inl f3]) (G := [g0, g1, g2, g3, g4]) (G' := [g0, r4.2.2.1, g2, g3, r4.2.2.2]) (ρ := [0, 3, 1, 4, 5, 6, 2]) (φ := [0, 3, 1, 2]) (ψ := [1, 2, 3, 4, 0]) [some 0, some 2, some 3, some 1] [some 4, some 0, some 1, some 2, some 3] zyw_Matcher_settleLowest zyw_Matcher_findFirst_24 zye_Matcher_findFirst_24 (by decide +kernel) (zt_Matcher_settleLowest hr4) ⟨⟨_, rfl, fun _ => rfl⟩, ⟨_, rfl, fun _ => rfl⟩, ⟨_, rfl, fun _ => rfl⟩, ⟨_, rfl, fun _ => rfl⟩, trivial⟩ ⟨rfl, rfl, rfl, rfl, rfl, trivial⟩ rfl rfl rfl rfl rfl rfl rfl) zd120_35 zxt121 rfl (by decide) (by decide) rfl ?_
          refine zv_zne hB zd120_38 rfl (fun hc5 => ?_) (fun hc5 => ?_)
          · rw [if_neg hc5] at h
            refine zv_iincw hB zd120_43 rfl rfl ?_
            refine zv_goto hB zd120_46 rfl ?_
            exact ih _ _ _ _ _ q h hK
          · rw [if_pos hc5] at h
            refine zv_con hB zd120_41 rfl ?_
            have hw : (0, r4.2.1, r4.2.2.1, g3, r4.2.2.2) = o := zi_rk (Option.some.inj h) hK
            subst hw
            exact hret _ _ _ _ _ zd120_42 (by constructor <;> decide) ⟨rfl, rfl, rfl⟩
  unfold zf_Matcher_findFirst_24 at h
  refine zv_ald hB zd120_0 rfl rfl rfl ?_
  refine zv_ald hB zd120_1 rfl rfl rfl ?_
  refine zv_ild hB zd120_2 rfl rfl ?_
  refine zv_ald hB zd120_3 rfl rfl rfl ?_
  obtain ⟨r1, hr1, h⟩ := zi_bind h
  refine zv_cv hB (zv_emq (va2 := [.inr 0, .inr 1, .inl x2, .inr 2]) (F := [.inr 1000, .inr 1000, .inl f2, .inl f3]) (F' := [.inr 1, .inr 2, .inl r1.1, .inl f3]) (G := [g0, g1, g2, g3, g4]) (G' := [g0, r1.2.1, g2, r1.2.2, g4]) (ρ := [0, 1, 2, 3, 4, 5]) (φ := [0, 1, 2]) (ψ := [0, 1, 2, 3]) [some 0, some 1, some 2, none] [some 0, some 1, some 2, some 3, none] zyw_Matcher_begin_24 zyw_Matcher_findFirst_24 zye_Matcher_findFirst_24 (by decide +kernel) (zt_Matcher_begin_24 hr1) ⟨⟨_, rfl, fun (h : zv_is (.inr 1000)) => (Nat.lt_irrefl 1000 h).elim⟩, ⟨_, rfl, fun (h : zv_is (.inr 1000)) => (Nat.lt_irrefl 1000 h).elim⟩, ⟨_, rfl, fun _ => rfl⟩, trivial⟩ ⟨rfl, rfl, rfl, rfl, trivial⟩ rfl rfl rfl rfl rfl rfl rfl) zd120_4 zxt113 rfl (by decide) (by decide) rfl ?_
  refine zv_con hB zd120_7 rfl ?_
  refine zv_ist hB zd120_8 rfl rfl rfl ?_
  obtain ⟨q6, hq6, h⟩ := zi_bind h
  refine zv_wk hB (L' := [.inr 0, .inr 1000, .inr 1000, .inr 1000, .inl 0]) (F' := [.inr 1, .inr 2, .inl r1.1, .inl f3]) ⟨fun _ => rfl, fun (h : zv_is (.inr 1000)) => (Nat.lt_irrefl 1000 h).elim, fun (h : zv_is (.inr 1000)) => (Nat.lt_irrefl 1000 h).elim, fun (h : zv_is (.inr 1000)) => (Nat.lt_irrefl 1000 h).elim, fun _ => rfl, trivial⟩ ⟨fun _ => rfl, fun _ => rfl, fun _ => rfl, fun _ => rfl, trivial⟩ ?_
  refine l0 _ _ _ _ _ _ q6 hq6 ?_
  rcases q6 with e7 | w8
  · replace h := zi_sl h
    show good 49 [.inr 1000, .inr 1000, .inr 1000, .inr 1000, .inr 1000] [] [.inr 1, .inr 2, .inl e7.1, .inl f3] [g0, e7.2.1, g2, r1.2.2, e7.2.2]
    refine zv_con hB zd120_49 rfl ?_
    have hw := Option.some.inj h
    subst hw
    exact hret _ _ _ _ _ zd120_50 (by constructor <;> decide) ⟨rfl, rfl, rfl⟩
  · exact Option.some.inj h
/-! Matcher_countWays_24 (LStarTales$Tale;I[II)I -/
-- names: 0 Matcher('arg', 0), 1 Tale('arg', 1), 2 (0, 24)('arg', 3), 3 (0, 72)(0, 8, 0), 4 (0, 8)(1, 6, 2), 5 (0, 24)(0, 8, 1), 6 (0, 8)(0, 8, 2)
-- fields: f0 = 0.tale_, f1 = 0.joined_, f2 = 0.deadEnds_, f3 = 1.names_; arrays: g0 = 2, g1 = 3, g2 = 4, g3 = 5, g4 = 6; out: [('ret', None), ('f', 2), ('g', 1), ('g', 3), ('g', 4)]
abbrev zy_Matcher_countWays_24 : zNL := (7, [(0, 8), (1, 6)], [(0, 8, 3, 0), (0, 8, 4, 1), (0, 8, 6, 2), (1, 6, 1, 3)], [(0, 8, 0, 3), (1, 6, 2, 4), (0, 8, 1, 5), (0, 8, 2, 6)], [(2, 0, 24, 0), (3, 0, 72, 1), (4, 0, 8, 2), (5, 0, 24, 3), (6, 0, 8, 4)])
theorem zyw_Matcher_countWays_24 : zv_wf zy_Matcher_countWays_24 = true := by decide +kernel
theorem zye_Matcher_countWays_24 : zv_ek2 zy_Matcher_countWays_24 = true := by decide +kernel
def zf_Matcher_countWays_24 (x2 : Int) (x4 : Int) (f2 : Int) (f3 : Int) (g0 : (Int → Int)) (g1 : (Int → Int)) (g2 : (Int → Int)) (g3 : (Int → Int)) (g4 : (Int → Int)) : Option (Int × Int × (Int → Int) × (Int → Int) × (Int → Int)) := (zf_Matcher_begin_24 x2 f2 g0 g1 g2 g3).bind fun r1 => ((zf_Matcher_search 0 f3 x4 r1.1 r1.2.1 g2 r1.2.2 g4 g0).bind fun r2 => (some (r2.1, r2.2.1, r2.2.2.1, r1.2.2, r2.2.2.2)))
theorem zd112_0 : decode zxm112.2.1 0 = .ok (.aload_n 0, 1) := by decide +kernel
theorem zd112_1 : decode zxm112.2.1 1 = .ok (.aload_n 1, 1) := by decide +kernel
theorem zd112_2 : decode zxm112.2.1 2 = .ok (.iload_n 2, 1) := by decide +kernel
theorem zd112_3 : decode zxm112.2.1 3 = .ok (.aload_n 3, 1) := by decide +kernel
theorem zd112_4 : decode zxm112.2.1 4 = .ok (.invokevirtual 37, 3) := by decide +kernel
theorem zd112_7 : decode zxm112.2.1 7 = .ok (.aload_n 0, 1) := by decide +kernel
theorem zd112_8 : decode zxm112.2.1 8 = .ok (.iconst 0, 1) := by decide +kernel
theorem zd112_9 : decode zxm112.2.1 9 = .ok (.aload_n 0, 1) := by decide +kernel
theorem zd112_10 : decode zxm112.2.1 10 = .ok (.getfield 30, 3) := by decide +kernel
theorem zd112_13 : decode zxm112.2.1 13 = .ok (.getfield 41, 3) := by decide +kernel
theorem zd112_16 : decode zxm112.2.1 16 = .ok (.iload 4, 2) := by decide +kernel
theorem zd112_18 : decode zxm112.2.1 18 = .ok (.invokevirtual 44, 3) := by decide +kernel
theorem zd112_21 : decode zxm112.2.1 21 = .ok (.ireturn, 1) := by decide +kernel
theorem zt_Matcher_countWays_24 {x2 : Int} {x4 : Int} {f2 : Int} {f3 : Int} {g0 : (Int → Int)} {g1 : (Int → Int)} {g2 : (Int → Int)} {g3 : (Int → Int)} {g4 : (Int → Int)} {o : Int × Int × (Int → Int) × (Int → Int) × (Int → Int)} (h : zf_Matcher_countWays_24 x2 x4 f2 f3 g0 g1 g2 g3 g4 = some o) : zv_Fn z_TB z_cl z_KX zy_Matcher_countWays_24 zxm112 (12, 720) [.inr 0, .inr 1, .inl x2, .inr 2, .inl x4] [.inr 1000, .inr 1000, .inl f2, .inl f3] [g0, g1, g2, g3, g4] (some o.1) [.inr 1, .inr 2, .inl o.2.1, .inl f3] [g0, o.2.2.1, g2, o.2.2.2.1, o.2.2.2.2] := zv_meth (K := (z_KF4, z_KC4, z_KL4, z_KT4, [], [], [], none)) (FT := z_FT) (MT := z_MT) (n := 5) zxp112 (z_ks4 _ (fun _ h => List.mem_cons_of_mem _ h) _ _ _ _ (fun j r h _ => by cases h)) (fun _ _ => zs_KX_p) zyw_Matcher_countWays_24 (fun va F G h => by obtain ⟨rfl, _⟩ := h; rfl) (fun va F G h => by obtain ⟨rfl, _⟩ := h; rfl) rfl fun good va F G hB hret hvret hP => by
  obtain ⟨rfl, rfl, rfl⟩ := hP
  unfold zf_Matcher_countWays_24 at h
  refine zv_ald hB zd112_0 rfl rfl rfl ?_
  refine zv_ald hB zd112_1 rfl rfl rfl ?_
  refine zv_ild hB zd112_2 rfl rfl ?_
  refine zv_ald hB zd112_3 rfl rfl rfl ?_
  obtain ⟨r1, hr1, h⟩ := zi_bind h
  refine zv_cv hB (zv_emq (va2 := [.inr 0, .inr 1, .inl x2, .inr 2]) (F := [.inr 1000, .inr 1000, .inl f2, .inl f3]) (F' := [.inr 1, .inr 2, .inl r1.1, .inl f3]) (G := [g0, g1, g2, g3, g4]) (G' := [g0, r1.2.1, g2, r1.2.2, g4]) (ρ := [0, 1, 2, 3, 4, 5]) (φ := [0, 1, 2]) (ψ := [0, 1, 2, 3]) [some 0, some 1, some 2, none] [some 0, some 1, some 2, some 3, none] zyw_Matcher_begin_24 zyw_Matcher_countWays_24 zye_Matcher_countWays_24 (by decide +kernel) (zt_Matcher_begin_24 hr1) ⟨⟨_, rfl, fun (h : zv_is (.inr 1000)) => (Nat.lt_irrefl 1000 h).elim⟩, ⟨_, rfl, fun (h : zv_is (.inr 1000)) => (Nat.lt_irrefl 1000 h).elim⟩, ⟨_, rfl, fun _ => rfl⟩, trivial⟩ ⟨rfl, rfl, rfl, rfl, trivial⟩ rfl rfl rfl rfl rfl rfl rfl) zd112_4 zxt113 rfl (by decide) (by decide) rfl ?_
  refine zv_ald hB zd112_7 rfl rfl rfl ?_
  refine zv_con hB zd112_8 rfl ?_
  refine zv_ald hB zd112_9 rfl rfl rfl ?_
  refine zv_getq hB zd112_10 rfl rfl rfl ?_
  refine zv_getf hB zd112_13 rfl rfl (fun _ _ => ?_)
  refine zv_ild hB zd112_16 rfl rfl ?_
  obtain ⟨r2, hr2, h⟩ := zi_bind h
  refine zv_cv hB (zv_emq (va2 := [.inr 0, .inl 0, .inl f3, .inl x4]) (F := [.inr 1, .inr 2, .inl r1.1, .inl f3]) (F' := [.inr 1, .inr 2, .inl r2.2.1, .inl f3]) (G := [g0, r1.2.1, g2, r1.2.2, g4]) (G' := [g0, r2.2.2.1, g2, r1.2.2, r2.2.2.2]) (ρ := [0, 3, 1, 4, 5, 6, 2]) (φ := [0, 1, 2]) (ψ := [1, 2, 3, 4, 0]) [some 0, some 1, some 2, none] [some 4, some 0, some 1, some 2, some 3] zyw_Matcher_search zyw_Matcher_countWays_24 zye_Matcher_countWays_24 (by decide +kernel) (zt_Matcher_search hr2) ⟨⟨_, rfl, fun _ => rfl⟩, ⟨_, rfl, fun _ => rfl⟩, ⟨_, rfl, fun _ => rfl⟩, trivial⟩ ⟨rfl, rfl, rfl, rfl, rfl, trivial⟩ rfl rfl rfl rfl rfl rfl rfl) zd112_18 zxt115 rfl (by decide) (by decide) rfl ?_
  have hw := Option.some.inj h
  subst hw
  exact hret _ _ _ _ _ zd112_21 (by trivial) ⟨rfl, rfl, rfl⟩
end
section
/-! Methods as functions, and that they do what these do. -/
/-! X_matched (III)I -/
-- names: 0 StarTales('arg', 0), 1 Tale(0, 0, 10), 2 View(0, 0, 12), 3 Sky(0, 0, 0), 4 Law(0, 0, 7), 5 (0, 24)(2, 7, 8), 6 (0, 13)(4, 4, 12), 7 (0, 24)(3, 1, 1), 8 (0, 24)(3, 1, 2), 9 (0, 24)(3, 1, 3), 10 (0, 14)(4, 4, 3), 11 (0, 14)(4, 4, 5), 12 (0, 14)(4, 4, 6), 13 (0, 200)(4, 4, 0), 14 (0, 40)(4, 4, 13), 15 (0, 200)(4, 4, 1), 16 (0, 24)(2, 7, 5), 17 (0, 24)(2, 7, 9), 18 Matcher(0, 0, 14), 19 (0, 72)(18, 8, 0), 20 (0, 8)(1, 6, 2), 21 (0, 24)(18, 8, 1), 22 (0, 8)(18, 8, 2)
-- fields: f0 = 0.telling_, f1 = 1.lines_, f2 = 0.ruling_, f3 = 2.sky_, f4 = 2.law_, f5 = 2.starsAsked_, f6 = 2.x_, f7 = 2.y_, f8 = 3.hour_, f9 = 3.night_, f10 = 2.shown_, f11 = 3.told_, f12 = 3.sightColumns_, f13 = 3.sightRows_, f14 = 3.clouds_, f15 = 4.tellsSeen_, f16 = 2.starsHold_, f17 = 4.clauses_, f18 = 4.answer_, f19 = 4.seenByPlace_, f20 = 4.tellsLines_, f21 = 4.linesByPlace_, f22 = 1.names_, f23 = 18.tale_, f24 = 18.joined_, f25 = 18.deadEnds_; arrays: g0 = 5, g1 = 6, g2 = 7, g3 = 8, g4 = 9, g5 = 10, g6 = 11, g7 = 12, g8 = 13, g9 = 14, g10 = 15, g11 = 16, g12 = 17, g13 = 19, g14 = 20, g15 = 21, g16 = 22; out: [('ret', None), ('f', 5), ('f', 6), ('f', 7), ('f', 10), ('f', 16), ('f', 18), ('f', 25), ('g', 0), ('g', 1), ('g', 9), ('g', 11), ('g', 12), ('g', 13), ('g', 15), ('g', 16)]
abbrev zy_X_matched : zNL := (23, [(0, 0), (1, 6), (2, 7), (3, 1), (4, 4), (18, 8)], [(0, 0, 10, 0), (1, 6, 0, 1), (0, 0, 7, 2), (2, 7, 0, 3), (2, 7, 1, 4), (2, 7, 6, 5), (2, 7, 2, 6), (2, 7, 3, 7), (3, 1, 6, 8), (3, 1, 7, 9), (2, 7, 4, 10), (3, 1, 0, 11), (3, 1, 9, 12), (3, 1, 10, 13), (3, 1, 8, 14), (4, 4, 8, 15), (2, 7, 7, 16), (4, 4, 7, 17), (4, 4, 14, 18), (4, 4, 10, 19), (4, 4, 9, 20), (4, 4, 11, 21), (1, 6, 1, 22), (18, 8, 3, 23), (18, 8, 4, 24), (18, 8, 6, 25)], [(0, 0, 12, 2), (0, 0, 0, 3), (2, 7, 8, 5), (4, 4, 12, 6), (3, 1, 1, 7), (3, 1, 2, 8), (3, 1, 3, 9), (4, 4, 3, 10), (4, 4, 5, 11), (4, 4, 6, 12), (4, 4, 0, 13), (4, 4, 13, 14), (4, 4, 1, 15), (2, 7, 5, 16), (2, 7, 9, 17), (0, 0, 14, 18), (18, 8, 0, 19), (1, 6, 2, 20), (18, 8, 1, 21), (18, 8, 2, 22)], [(5, 0, 24, 0), (6, 0, 13, 1), (7, 0, 24, 2), (8, 0, 24, 3), (9, 0, 24, 4), (10, 0, 14, 5), (11, 0, 14, 6), (12, 0, 14, 7), (13, 0, 200, 8), (14, 0, 40, 9), (15, 0, 200, 10), (16, 0, 24, 11), (17, 0, 24, 12), (19, 0, 72, 13), (20, 0, 8, 14), (21, 0, 24, 15), (22, 0, 8, 16)])
theorem zyw_X_matched : zv_wf zy_X_matched = true := by decide +kernel
theorem zye_X_matched : zv_ek2 zy_X_matched = true := by decide +kernel
def zf_X_matched (x1 : Int) (x2 : Int) (x3 : Int) (f1 : Int) (f5 : Int) (f6 : Int) (f7 : Int) (f8 : Int) (f9 : Int) (f10 : Int) (f11 : Int) (f12 : Int) (f13 : Int) (f14 : Int) (f15 : Int) (f16 : Int) (f17 : Int) (f18 : Int) (f19 : Int) (f20 : Int) (f21 : Int) (f22 : Int) (f25 : Int) (g0 : (Int → Int)) (g1 : (Int → Int)) (g2 : (Int → Int)) (g3 : (Int → Int)) (g4 : (Int → Int)) (g5 : (Int → Int)) (g6 : (Int → Int)) (g7 : (Int → Int)) (g8 : (Int → Int)) (g9 : (Int → Int)) (g10 : (Int → Int)) (g11 : (Int → Int)) (g12 : (Int → Int)) (g13 : (Int → Int)) (g14 : (Int → Int)) (g15 : (Int → Int)) (g16 : (Int → Int)) : Option (Int × Int × Int × Int × Int × Int × Int × Int × (Int → Int) × (Int → Int) × (Int → Int) × (Int → Int) × (Int → Int) × (Int → Int) × (Int → Int) × (Int → Int)) := (zf_X_isPlace x1 x2).bind fun r1 => (if r1 = 0 then (some ((-3), f5, f6, f7, f10, f16, f18, f25, g0, g1, g9, g11, g12, g13, g15, g16)) else ((zf_X_isWithin x3 (-1) 7).bind fun r3 => (if r3 = 0 then (some ((-3), f5, f6, f7, f10, f16, f18, f25, g0, g1, g9, g11, g12, g13, g15, g16)) else (if f1 = 0 then (some ((-2), f5, f6, f7, f10, f16, f18, f25, g0, g1, g9, g11, g12, g13, g15, g16)) else ((zf_X_lookAndDraw x1 x2 f5 f6 f7 f8 f9 f10 f11 f12 f13 f14 f15 f16 f17 f18 f19 f20 f21 g0 g1 g2 g3 g4 g5 g6 g7 g8 g9 g10 g11 g12).bind fun r6 => (if x3 = (-1) then ((zf_Matcher_countWays_24 r6.2.2.2.1 10000 f25 f22 r6.2.2.2.2.2.2.2.2.2.1 g13 g14 g15 g16).bind fun r12 => (some (r12.1, r6.1, r6.2.1, r6.2.2.1, r6.2.2.2.1, r6.2.2.2.2.1, r6.2.2.2.2.2.1, r12.2.1, r6.2.2.2.2.2.2.1, r6.2.2.2.2.2.2.2.1, r6.2.2.2.2.2.2.2.2.1, r6.2.2.2.2.2.2.2.2.2.1, r6.2.2.2.2.2.2.2.2.2.2, r12.2.2.1, r12.2.2.2.1, r12.2.2.2.2))) else (if (zi_and (zi_shr f22 x3) 1) = 0 then (some ((-2), r6.1, r6.2.1, r6.2.2.1, r6.2.2.2.1, r6.2.2.2.2.1, r6.2.2.2.2.2.1, f25, r6.2.2.2.2.2.2.1, r6.2.2.2.2.2.2.2.1, r6.2.2.2.2.2.2.2.2.1, r6.2.2.2.2.2.2.2.2.2.1, r6.2.2.2.2.2.2.2.2.2.2, g13, g15, g16)) else ((zf_Matcher_findFirst_24 r6.2.2.2.1 f25 f22 r6.2.2.2.2.2.2.2.2.2.1 g13 g14 g15 g16).bind fun r9 => (if r9.1 = 0 then (some ((-2), r6.1, r6.2.1, r6.2.2.1, r6.2.2.2.1, r6.2.2.2.2.1, r6.2.2.2.2.2.1, r9.2.1, r6.2.2.2.2.2.2.1, r6.2.2.2.2.2.2.2.1, r6.2.2.2.2.2.2.2.2.1, r6.2.2.2.2.2.2.2.2.2.1, r6.2.2.2.2.2.2.2.2.2.2, r9.2.2.1, r9.2.2.2.1, r9.2.2.2.2)) else (cond (zi_ix x3 8) (some ((r9.2.2.2.2 x3), r6.1, r6.2.1, r6.2.2.1, r6.2.2.2.1, r6.2.2.2.2.1, r6.2.2.2.2.2.1, r9.2.1, r6.2.2.2.2.2.2.1, r6.2.2.2.2.2.2.2.1, r6.2.2.2.2.2.2.2.2.1, r6.2.2.2.2.2.2.2.2.2.1, r6.2.2.2.2.2.2.2.2.2.2, r9.2.2.1, r9.2.2.2.1, r9.2.2.2.2)) none))))))))))
theorem zd111_0 : decode zxm111.2.1 0 = .ok (.iload_n 1, 1) := by decide +kernel
theorem zd111_1 : decode zxm111.2.1 1 = .ok (.iload_n 2, 1) := by decide +kernel
theorem zd111_2 : decode zxm111.2.1 2 = .ok (.invokestatic 130, 3) := by decide +kernel
theorem zd111_5 : decode zxm111.2.1 5 = .ok (.ifCond .eq 13, 3) := by decide +kernel
theorem zd111_8 : decode zxm111.2.1 8 = .ok (.iload_n 3, 1) := by decide +kernel
theorem zd111_9 : decode zxm111.2.1 9 = .ok (.iconst (-1), 1) := by decide +kernel
theorem zd111_10 : decode zxm111.2.1 10 = .ok (.bipush 7, 2) := by decide +kernel
theorem zd111_12 : decode zxm111.2.1 12 = .ok (.invokestatic 126, 3) := by decide +kernel
theorem zd111_15 : decode zxm111.2.1 15 = .ok (.ifCond .ne 6, 3) := by decide +kernel
theorem zd111_18 : decode zxm111.2.1 18 = .ok (.bipush (-3), 2) := by decide +kernel
theorem zd111_20 : decode zxm111.2.1 20 = .ok (.ireturn, 1) := by decide +kernel
theorem zd111_21 : decode zxm111.2.1 21 = .ok (.aload_n 0, 1) := by decide +kernel
theorem zd111_22 : decode zxm111.2.1 22 = .ok (.getfield 69, 3) := by decide +kernel
theorem zd111_25 : decode zxm111.2.1 25 = .ok (.getfield 253, 3) := by decide +kernel
theorem zd111_28 : decode zxm111.2.1 28 = .ok (.ifCond .ne 6, 3) := by decide +kernel
theorem zd111_31 : decode zxm111.2.1 31 = .ok (.bipush (-2), 2) := by decide +kernel
theorem zd111_33 : decode zxm111.2.1 33 = .ok (.ireturn, 1) := by decide +kernel
theorem zd111_34 : decode zxm111.2.1 34 = .ok (.aload_n 0, 1) := by decide +kernel
theorem zd111_35 : decode zxm111.2.1 35 = .ok (.aload_n 0, 1) := by decide +kernel
theorem zd111_36 : decode zxm111.2.1 36 = .ok (.getfield 81, 3) := by decide +kernel
theorem zd111_39 : decode zxm111.2.1 39 = .ok (.iload_n 1, 1) := by decide +kernel
theorem zd111_40 : decode zxm111.2.1 40 = .ok (.iload_n 2, 1) := by decide +kernel
theorem zd111_41 : decode zxm111.2.1 41 = .ok (.invokevirtual 221, 3) := by decide +kernel
theorem zd111_44 : decode zxm111.2.1 44 = .ok (.iload_n 3, 1) := by decide +kernel
theorem zd111_45 : decode zxm111.2.1 45 = .ok (.iconst (-1), 1) := by decide +kernel
theorem zd111_46 : decode zxm111.2.1 46 = .ok (.if_icmp .ne 32, 3) := by decide +kernel
theorem zd111_49 : decode zxm111.2.1 49 = .ok (.aload_n 0, 1) := by decide +kernel
theorem zd111_50 : decode zxm111.2.1 50 = .ok (.getfield 96, 3) := by decide +kernel
theorem zd111_53 : decode zxm111.2.1 53 = .ok (.aload_n 0, 1) := by decide +kernel
theorem zd111_54 : decode zxm111.2.1 54 = .ok (.getfield 69, 3) := by decide +kernel
theorem zd111_57 : decode zxm111.2.1 57 = .ok (.aload_n 0, 1) := by decide +kernel
theorem zd111_58 : decode zxm111.2.1 58 = .ok (.getfield 81, 3) := by decide +kernel
theorem zd111_61 : decode zxm111.2.1 61 = .ok (.getfield 218, 3) := by decide +kernel
theorem zd111_64 : decode zxm111.2.1 64 = .ok (.aload_n 0, 1) := by decide +kernel
theorem zd111_65 : decode zxm111.2.1 65 = .ok (.getfield 81, 3) := by decide +kernel
theorem zd111_68 : decode zxm111.2.1 68 = .ok (.getfield 90, 3) := by decide +kernel
theorem zd111_71 : decode zxm111.2.1 71 = .ok (.sipush 10000, 3) := by decide +kernel
theorem zd111_74 : decode zxm111.2.1 74 = .ok (.invokevirtual 256, 3) := by decide +kernel
theorem zd111_77 : decode zxm111.2.1 77 = .ok (.ireturn, 1) := by decide +kernel
theorem zd111_78 : decode zxm111.2.1 78 = .ok (.aload_n 0, 1) := by decide +kernel
theorem zd111_79 : decode zxm111.2.1 79 = .ok (.getfield 69, 3) := by decide +kernel
theorem zd111_82 : decode zxm111.2.1 82 = .ok (.getfield 260, 3) := by decide +kernel
theorem zd111_85 : decode zxm111.2.1 85 = .ok (.iload_n 3, 1) := by decide +kernel
theorem zd111_86 : decode zxm111.2.1 86 = .ok (.ishr, 1) := by decide +kernel
theorem zd111_87 : decode zxm111.2.1 87 = .ok (.iconst 1, 1) := by decide +kernel
theorem zd111_88 : decode zxm111.2.1 88 = .ok (.iand, 1) := by decide +kernel
theorem zd111_89 : decode zxm111.2.1 89 = .ok (.ifCond .ne 6, 3) := by decide +kernel
theorem zd111_92 : decode zxm111.2.1 92 = .ok (.bipush (-2), 2) := by decide +kernel
theorem zd111_94 : decode zxm111.2.1 94 = .ok (.ireturn, 1) := by decide +kernel
theorem zd111_95 : decode zxm111.2.1 95 = .ok (.aload_n 0, 1) := by decide +kernel
theorem zd111_96 : decode zxm111.2.1 96 = .ok (.getfield 96, 3) := by decide +kernel
theorem zd111_99 : decode zxm111.2.1 99 = .ok (.aload_n 0, 1) := by decide +kernel
theorem zd111_100 : decode zxm111.2.1 100 = .ok (.getfield 69, 3) := by decide +kernel
theorem zd111_103 : decode zxm111.2.1 103 = .ok (.aload_n 0, 1) := by decide +kernel
theorem zd111_104 : decode zxm111.2.1 104 = .ok (.getfield 81, 3) := by decide +kernel
theorem zd111_107 : decode zxm111.2.1 107 = .ok (.getfield 218, 3) := by decide +kernel
theorem zd111_110 : decode zxm111.2.1 110 = .ok (.aload_n 0, 1) := by decide +kernel
theorem zd111_111 : decode zxm111.2.1 111 = .ok (.getfield 81, 3) := by decide +kernel
theorem zd111_114 : decode zxm111.2.1 114 = .ok (.getfield 90, 3) := by decide +kernel
theorem zd111_117 : decode zxm111.2.1 117 = .ok (.invokevirtual 263, 3) := by decide +kernel
theorem zd111_120 : decode zxm111.2.1 120 = .ok (.ifCond .eq 15, 3) := by decide +kernel
theorem zd111_123 : decode zxm111.2.1 123 = .ok (.aload_n 0, 1) := by decide +kernel
theorem zd111_124 : decode zxm111.2.1 124 = .ok (.getfield 96, 3) := by decide +kernel
theorem zd111_127 : decode zxm111.2.1 127 = .ok (.getfield 267, 3) := by decide +kernel
theorem zd111_130 : decode zxm111.2.1 130 = .ok (.iload_n 3, 1) := by decide +kernel
theorem zd111_131 : decode zxm111.2.1 131 = .ok (.iaload, 1) := by decide +kernel
theorem zd111_132 : decode zxm111.2.1 132 = .ok (.goto 5, 3) := by decide +kernel
theorem zd111_135 : decode zxm111.2.1 135 = .ok (.bipush (-2), 2) := by decide +kernel
theorem zd111_137 : decode zxm111.2.1 137 = .ok (.ireturn, 1) := by decide +kernel
theorem zt_X_matched {x1 : Int} {x2 : Int} {x3 : Int} {f1 : Int} {f5 : Int} {f6 : Int} {f7 : Int} {f8 : Int} {f9 : Int} {f10 : Int} {f11 : Int} {f12 : Int} {f13 : Int} {f14 : Int} {f15 : Int} {f16 : Int} {f17 : Int} {f18 : Int} {f19 : Int} {f20 : Int} {f21 : Int} {f22 : Int} {f25 : Int} {g0 : (Int → Int)} {g1 : (Int → Int)} {g2 : (Int → Int)} {g3 : (Int → Int)} {g4 : (Int → Int)} {g5 : (Int → Int)} {g6 : (Int → Int)} {g7 : (Int → Int)} {g8 : (Int → Int)} {g9 : (Int → Int)} {g10 : (Int → Int)} {g11 : (Int → Int)} {g12 : (Int → Int)} {g13 : (Int → Int)} {g14 : (Int → Int)} {g15 : (Int → Int)} {g16 : (Int → Int)} {o : Int × Int × Int × Int × Int × Int × Int × Int × (Int → Int) × (Int → Int) × (Int → Int) × (Int → Int) × (Int → Int) × (Int → Int) × (Int → Int) × (Int → Int)} (h : zf_X_matched x1 x2 x3 f1 f5 f6 f7 f8 f9 f10 f11 f12 f13 f14 f15 f16 f17 f18 f19 f20 f21 f22 f25 g0 g1 g2 g3 g4 g5 g6 g7 g8 g9 g10 g11 g12 g13 g14 g15 g16 = some o) : zv_Fn z_TB z_cl z_KX zy_X_matched zxm111 (14, 840) [.inr 0, .inl x1, .inl x2, .inl x3] [.inr 1, .inl f1, .inr 4, .inr 1000, .inr 1000, .inl f5, .inl f6, .inl f7, .inl f8, .inl f9, .inl f10, .inl f11, .inl f12, .inl f13, .inl f14, .inl f15, .inl f16, .inl f17, .inl f18, .inl f19, .inl f20, .inl f21, .inl f22, .inr 1000, .inr 1000, .inl f25] [g0, g1, g2, g3, g4, g5, g6, g7, g8, g9, g10, g11, g12, g13, g14, g15, g16] (some o.1) [.inr 1, .inl f1, .inr 4, .inr 1000, .inr 1000, .inl o.2.1, .inl o.2.2.1, .inl o.2.2.2.1, .inl f8, .inl f9, .inl o.2.2.2.2.1, .inl f11, .inl f12, .inl f13, .inl f14, .inl f15, .inl o.2.2.2.2.2.1, .inl f17, .inl o.2.2.2.2.2.2.1, .inl f19, .inl f20, .inl f21, .inl f22, .inr 1000, .inr 1000, .inl o.2.2.2.2.2.2.2.1] [o.2.2.2.2.2.2.2.2.1, o.2.2.2.2.2.2.2.2.2.1, g2, g3, g4, g5, g6, g7, g8, o.2.2.2.2.2.2.2.2.2.2.1, g10, o.2.2.2.2.2.2.2.2.2.2.2.1, o.2.2.2.2.2.2.2.2.2.2.2.2.1, o.2.2.2.2.2.2.2.2.2.2.2.2.2.1, g14, o.2.2.2.2.2.2.2.2.2.2.2.2.2.2.1, o.2.2.2.2.2.2.2.2.2.2.2.2.2.2.2] := zv_meth (K := (z_KF0, z_KC0, z_KL0, z_KT0, [], [], [], none)) (FT := z_FT) (MT := z_MT) (n := 4) zxp111 (z_ks0 _ (fun _ h => List.mem_cons_of_mem _ h) _ _ _ _ (fun j r h _ => by cases h)) (fun _ _ => zs_KX_p) zyw_X_matched (fun va F G h => by obtain ⟨rfl, _⟩ := h; rfl) (fun va F G h => by obtain ⟨rfl, _⟩ := h; rfl) rfl fun good va F G hB hret hvret hP => by
  obtain ⟨rfl, rfl, rfl⟩ := hP
  unfold zf_X_matched at h
  refine zv_ild hB zd111_0 rfl rfl ?_
  refine zv_ild hB zd111_1 rfl rfl ?_
  obtain ⟨r1, hr1, h⟩ := zi_bind h
  refine zv_cs hB (zv_emq (va2 := [.inl x1, .inl x2]) (F := [.inr 1, .inl f1, .inr 4, .inr 1000, .inr 1000, .inl f5, .inl f6, .inl f7, .inl f8, .inl f9, .inl f10, .inl f11, .inl f12, .inl f13, .inl f14, .inl f15, .inl f16, .inl f17, .inl f18, .inl f19, .inl f20, .inl f21, .inl f22, .inr 1000, .inr 1000, .inl f25]) (F' := [.inr 1, .inl f1, .inr 4, .inr 1000, .inr 1000, .inl f5, .inl f6, .inl f7, .inl f8, .inl f9, .inl f10, .inl f11, .inl f12, .inl f13, .inl f14, .inl f15, .inl f16, .inl f17, .inl f18, .inl f19, .inl f20, .inl f21, .inl f22, .inr 1000, .inr 1000, .inl f25]) (G := [g0, g1, g2, g3, g4, g5, g6, g7, g8, g9, g10, g11, g12, g13, g14, g15, g16]) (G' := [g0, g1, g2, g3, g4, g5, g6, g7, g8, g9, g10, g11, g12, g13, g14, g15, g16]) (ρ := []) (φ := []) (ψ := []) [none, none, none, none, none, none, none, none, none, none, none, none, none, none, none, none, none, none, none, none, none, none, none, none, none, none] [none, none, none, none, none, none, none, none, none, none, none, none, none, none, none, none, none] zyw_X_isPlace zyw_X_matched zye_X_matched (by decide +kernel) (zt_X_isPlace hr1) trivial trivial rfl rfl rfl rfl rfl rfl rfl) zd111_2 zxt16 rfl (by decide) (by decide) rfl ?_
  refine zv_zeq hB zd111_5 rfl (fun hc2 => ?_) (fun hc2 => ?_)
  · rw [if_pos hc2] at h
    refine zv_con hB zd111_18 rfl ?_
    have hw := Option.some.inj h
    subst hw
    exact hret _ _ _ _ _ zd111_20 (by trivial) ⟨rfl, rfl, rfl⟩
  · rw [if_neg hc2] at h
    refine zv_ild hB zd111_8 rfl rfl ?_
    refine zv_con hB zd111_9 rfl ?_
    refine zv_con hB zd111_10 rfl ?_
    obtain ⟨r3, hr3, h⟩ := zi_bind h
    refine zv_cs hB (zv_emq (va2 := [.inl x3, .inl (-1), .inl 7]) (F := [.inr 1, .inl f1, .inr 4, .inr 1000, .inr 1000, .inl f5, .inl f6, .inl f7, .inl f8, .inl f9, .inl f10, .inl f11, .inl f12, .inl f13, .inl f14, .inl f15, .inl f16, .inl f17, .inl f18, .inl f19, .inl f20, .inl f21, .inl f22, .inr 1000, .inr 1000, .inl f25]) (F' := [.inr 1, .inl f1, .inr 4, .inr 1000, .inr 1000, .inl f5, .inl f6, .inl f7, .inl f8, .inl f9, .inl f10, .inl f11, .inl f12, .inl f13, .inl f14, .inl f15, .inl f16, .inl f17, .inl f18, .inl f19, .inl f20, .inl f21, .inl f22, .inr 1000, .inr 1000, .inl f25]) (G := [g0, g1, g2, g3, g4, g5, g6, g7, g8, g9, g10, g11, g12, g13, g14, g15, g16]) (G' := [g0, g1, g2, g3, g4, g5, g6, g7, g8, g9, g10, g11, g12, g13, g14, g15, g16]) (ρ := []) (φ := []) (ψ := []) [none, none, none, none, none, none, none, none, none, none, none, none, none, none, none, none, none, none, none, none, none, none, none, none, none, none] [none, none, none, none, none, none, none, none, none, none, none, none, none, none, none, none, none] zyw_X_isWithin zyw_X_matched zye_X_matched (by decide +kernel) (zt_X_isWithin hr3) trivial trivial rfl rfl rfl rfl rfl rfl rfl) zd111_12 zxt15 rfl (by decide) (by decide) rfl ?_
    refine zv_zne hB zd111_15 rfl (fun hc4 => ?_) (fun hc4 => ?_)
    · rw [if_neg hc4] at h
      refine zv_ald hB zd111_21 rfl rfl rfl ?_
      refine zv_getq hB zd111_22 rfl rfl rfl ?_
      refine zv_getf hB zd111_25 rfl rfl (fun _ _ => ?_)
      refine zv_zne hB zd111_28 rfl (fun hc5 => ?_) (fun hc5 => ?_)
      · rw [if_neg hc5] at h
        refine zv_ald hB zd111_34 rfl rfl rfl ?_
        refine zv_ald hB zd111_35 rfl rfl rfl ?_
        refine zv_getr hB zd111_36 rfl ?_
        refine zv_ild hB zd111_39 rfl rfl ?_
        refine zv_ild hB zd111_40 rfl rfl ?_
        obtain ⟨r6, hr6, h⟩ := zi_bind h
        refine zv_cv hB (zv_emq (va2 := [.inr 0, .inr 2, .inl x1, .inl x2]) (F := [.inr 1, .inl f1, .inr 4, .inr 1000, .inr 1000, .inl f5, .inl f6, .inl f7, .inl f8, .inl f9, .inl f10, .inl f11, .inl f12, .inl f13, .inl f14, .inl f15, .inl f16, .inl f17, .inl f18, .inl f19, .inl f20, .inl f21, .inl f22, .inr 1000, .inr 1000, .inl f25]) (F' := [.inr 1, .inl f1, .inr 4, .inr 3, .inr 4, .inl r6.1, .inl r6.2.1, .inl r6.2.2.1, .inl f8, .inl f9, .inl r6.2.2.2.1, .inl f11, .inl f12, .inl f13, .inl f14, .inl f15, .inl r6.2.2.2.2.1, .inl f17, .inl r6.2.2.2.2.2.1, .inl f19, .inl f20, .inl f21, .inl f22, .inr 1000, .inr 1000, .inl f25]) (G := [g0, g1, g2, g3, g4, g5, g6, g7, g8, g9, g10, g11, g12, g13, g14, g15, g16]) (G' := [r6.2.2.2.2.2.2.1, r6.2.2.2.2.2.2.2.1, g2, g3, g4, g5, g6, g7, g8, r6.2.2.2.2.2.2.2.2.1, g10, r6.2.2.2.2.2.2.2.2.2.1, r6.2.2.2.2.2.2.2.2.2.2, g13, g14, g15, g16]) (ρ := [0, 2, 3, 4, 5, 6, 7, 8, 9, 10, 11, 12, 13, 14, 15, 16, 17]) (φ := [2, 3, 4, 5, 6, 7, 8, 9, 10, 11, 12, 13, 14, 15, 16, 17, 18, 19, 20, 21]) (ψ := [0, 1, 2, 3, 4, 5, 6, 7, 8, 9, 10, 11, 12]) [none, none, some 0, some 1, some 2, some 3, some 4, some 5, some 6, some 7, some 8, some 9, some 10, some 11, some 12, some 13, some 14, some 15, some 16, some 17, some 18, some 19, none, none, none, none] [some 0, some 1, some 2, some 3, some 4, some 5, some 6, some 7, some 8, some 9, some 10, some 11, some 12, none, none, none, none] zyw_X_lookAndDraw zyw_X_matched zye_X_matched (by decide +kernel) (zt_X_lookAndDraw hr6) ⟨⟨_, rfl, fun _ => rfl⟩, ⟨_, rfl, fun (h : zv_is (.inr 1000)) => (Nat.lt_irrefl 1000 h).elim⟩, ⟨_, rfl, fun (h : zv_is (.inr 1000)) => (Nat.lt_irrefl 1000 h).elim⟩, ⟨_, rfl, fun _ => rfl⟩, ⟨_, rfl, fun _ => rfl⟩, ⟨_, rfl, fun _ => rfl⟩, ⟨_, rfl, fun _ => rfl⟩, ⟨_, rfl, fun _ => rfl⟩, ⟨_, rfl, fun _ => rfl⟩, ⟨_, rfl, fun _ => rfl⟩, ⟨_, rfl, fun _ => rfl⟩, ⟨_, rfl, fun _ => rfl⟩, ⟨_, rfl, fun _ => rfl⟩, ⟨_, rfl, fun _ => rfl⟩, ⟨_, rfl, fun _ => rfl⟩, ⟨_, rfl, fun _ => rfl⟩, ⟨_, rfl, fun _ => rfl⟩, ⟨_, rfl, fun _ => rfl⟩, ⟨_, rfl, fun _ => rfl⟩, ⟨_, rfl, fun _ => rfl⟩, trivial⟩ ⟨rfl, rfl, rfl, rfl, rfl, rfl, rfl, rfl, rfl, rfl, rfl, rfl, rfl, trivial⟩ rfl rfl rfl rfl rfl rfl rfl) zd111_41 zxt96 rfl (by decide) (by decide) rfl ?_
        refine zv_ild hB zd111_44 rfl rfl ?_
        refine zv_con hB zd111_45 rfl ?_
        refine zv_cne hB zd111_46 rfl (fun hc7 => ?_) (fun hc7 => ?_)
        · rw [if_neg hc7] at h
          refine zv_ald hB zd111_78 rfl rfl rfl ?_
          refine zv_getq hB zd111_79 rfl rfl rfl ?_
          refine zv_getf hB zd111_82 rfl rfl (fun _ _ => ?_)
          refine zv_ild hB zd111_85 rfl rfl ?_
          refine zv_shrw hB zd111_86 ?_
          refine zv_con hB zd111_87 rfl ?_
          refine zv_andw hB zd111_88 ?_
          refine zv_zne hB zd111_89 rfl (fun hc8 => ?_) (fun hc8 => ?_)
          · rw [if_neg hc8] at h
            refine zv_ald hB zd111_95 rfl rfl rfl ?_
            refine zv_getr hB zd111_96 rfl ?_
            refine zv_ald hB zd111_99 rfl rfl rfl ?_
            refine zv_getq hB zd111_100 rfl rfl rfl ?_
            refine zv_ald hB zd111_103 rfl rfl rfl ?_
            refine zv_getr hB zd111_104 rfl ?_
            refine zv_getf hB zd111_107 rfl rfl (fun _ _ => ?_)
            refine zv_ald hB zd111_110 rfl rfl rfl ?_
            refine zv_getr hB zd111_111 rfl ?_
            refine zv_getr hB zd111_114 rfl ?_
            obtain ⟨r9, hr9, h⟩ := zi_bind h
            refine zv_cv hB (zv_emq (va2 := [.inr 18, .inr 1, .inl r6.2.2.2.1, .inr 16]) (F := [.inr 1, .inl f1, .inr 4, .inr 3, .inr 4, .inl r6.1, .inl r6.2.1, .inl r6.2.2.1, .inl f8, .inl f9, .inl r6.2.2.2.1, .inl f11, .inl f12, .inl f13, .inl f14, .inl f15, .inl r6.2.2.2.2.1, .inl f17, .inl r6.2.2.2.2.2.1, .inl f19, .inl f20, .inl f21, .inl f22, .inr 1000, .inr 1000, .inl f25]) (F' := [.inr 1, .inl f1, .inr 4, .inr 3, .inr 4, .inl r6.1, .inl r6.2.1, .inl r6.2.2.1, .inl f8, .inl f9, .inl r6.2.2.2.1, .inl f11, .inl f12, .inl f13, .inl f14, .inl f15, .inl r6.2.2.2.2.1, .inl f17, .inl r6.2.2.2.2.2.1, .inl f19, .inl f20, .inl f21, .inl f22, .inr 1, .inr 16, .inl r9.2.1]) (G := [r6.2.2.2.2.2.2.1, r6.2.2.2.2.2.2.2.1, g2, g3, g4, g5, g6, g7, g8, r6.2.2.2.2.2.2.2.2.1, g10, r6.2.2.2.2.2.2.2.2.2.1, r6.2.2.2.2.2.2.2.2.2.2, g13, g14, g15, g16]) (G' := [r6.2.2.2.2.2.2.1, r6.2.2.2.2.2.2.2.1, g2, g3, g4, g5, g6, g7, g8, r6.2.2.2.2.2.2.2.2.1, g10, r6.2.2.2.2.2.2.2.2.2.1, r6.2.2.2.2.2.2.2.2.2.2, r9.2.2.1, g14, r9.2.2.2.1, r9.2.2.2.2]) (ρ := [18, 1, 16, 19, 20, 21, 22]) (φ := [23, 24, 25, 22]) (ψ := [11, 13, 14, 15, 16]) [none, none, none, none, none, none, none, none, none, none, none, none, none, none, none, none, none, none, none, none, none, none, some 3, some 0, some 1, some 2] [none, none, none, none, none, none, none, none, none, none, none, some 0, none, some 1, some 2, some 3, some 4] zyw_Matcher_findFirst_24 zyw_X_matched zye_X_matched (by decide +kernel) (zt_Matcher_findFirst_24 hr9) ⟨⟨_, rfl, fun (h : zv_is (.inr 1000)) => (Nat.lt_irrefl 1000 h).elim⟩, ⟨_, rfl, fun (h : zv_is (.inr 1000)) => (Nat.lt_irrefl 1000 h).elim⟩, ⟨_, rfl, fun _ => rfl⟩, ⟨_, rfl, fun _ => rfl⟩, trivial⟩ ⟨rfl, rfl, rfl, rfl, rfl, trivial⟩ rfl rfl rfl rfl rfl rfl rfl) zd111_117 zxt120 rfl (by decide) (by decide) rfl ?_
            refine zv_zeq hB zd111_120 rfl (fun hc10 => ?_) (fun hc10 => ?_)
            · rw [if_pos hc10] at h
              refine zv_con hB zd111_135 rfl ?_
              have hw := Option.some.inj h
              refine zv_wk hB (L' := [.inr 0, .inl x1, .inl x2, .inl x3]) (F' := [.inr 1, .inl f1, .inr 4, .inr 1000, .inr 1000, .inl r6.1, .inl r6.2.1, .inl r6.2.2.1, .inl f8, .inl f9, .inl r6.2.2.2.1, .inl f11, .inl f12, .inl f13, .inl f14, .inl f15, .inl r6.2.2.2.2.1, .inl f17, .inl r6.2.2.2.2.2.1, .inl f19, .inl f20, .inl f21, .inl f22, .inr 1000, .inr 1000, .inl r9.2.1]) ⟨fun _ => rfl, fun _ => rfl, fun _ => rfl, fun _ => rfl, trivial⟩ ⟨fun _ => rfl, fun _ => rfl, fun _ => rfl, fun (h : zv_is (.inr 1000)) => (Nat.lt_irrefl 1000 h).elim, fun (h : zv_is (.inr 1000)) => (Nat.lt_irrefl 1000 h).elim, fun _ => rfl, fun _ => rfl, fun _ => rfl, fun _ => rfl, fun _ => rfl, fun _ => rfl, fun _ => rfl, fun _ => rfl, fun _ => rfl, fun _ => rfl, fun _ => rfl, fun _ => rfl, fun _ => rfl, fun _ => rfl, fun _ => rfl, fun _ => rfl, fun _ => rfl, fun _ => rfl, fun (h : zv_is (.inr 1000)) => (Nat.lt_irrefl 1000 h).elim, fun (h : zv_is (.inr 1000)) => (Nat.lt_irrefl 1000 h).elim, fun _ => rfl, trivial⟩ ?_
              subst hw
              exact hret _ _ _ _ _ zd111_137 (by trivial) ⟨rfl, rfl, rfl⟩
            · rw [if_neg hc10] at h
              refine zv_ald hB zd111_123 rfl rfl rfl ?_
              refine zv_getr hB zd111_124 rfl ?_
              refine zv_getr hB zd111_127 rfl ?_
              refine zv_ild hB zd111_130 rfl rfl ?_
              obtain ⟨c11, h⟩ := zi_if h
              refine zv_iald hB zd111_131 rfl rfl (zi_ix_ok c11).1 (zi_ix_ok c11).2 (fun _ _ => ?_)
              refine zv_goto hB zd111_132 rfl ?_
              have hw := Option.some.inj h
              refine zv_wk hB (L' := [.inr 0, .inl x1, .inl x2, .inl x3]) (F' := [.inr 1, .inl f1, .inr 4, .inr 1000, .inr 1000, .inl r6.1, .inl r6.2.1, .inl r6.2.2.1, .inl f8, .inl f9, .inl r6.2.2.2.1, .inl f11, .inl f12, .inl f13, .inl f14, .inl f15, .inl r6.2.2.2.2.1, .inl f17, .inl r6.2.2.2.2.2.1, .inl f19, .inl f20, .inl f21, .inl f22, .inr 1000, .inr 1000, .inl r9.2.1]) ⟨fun _ => rfl, fun _ => rfl, fun _ => rfl, fun _ => rfl, trivial⟩ ⟨fun _ => rfl, fun _ => rfl, fun _ => rfl, fun (h : zv_is (.inr 1000)) => (Nat.lt_irrefl 1000 h).elim, fun (h : zv_is (.inr 1000)) => (Nat.lt_irrefl 1000 h).elim, fun _ => rfl, fun _ => rfl, fun _ => rfl, fun _ => rfl, fun _ => rfl, fun _ => rfl, fun _ => rfl, fun _ => rfl, fun _ => rfl, fun _ => rfl, fun _ => rfl, fun _ => rfl, fun _ => rfl, fun _ => rfl, fun _ => rfl, fun _ => rfl, fun _ => rfl, fun _ => rfl, fun (h : zv_is (.inr 1000)) => (Nat.lt_irrefl 1000 h).elim, fun (h : zv_is (.inr 1000)) => (Nat.lt_irrefl 1000 h).elim, fun _ => rfl, trivial⟩ ?_
              subst hw
              exact hret _ _ _ _ _ zd111_137 (by trivial) ⟨rfl, rfl, rfl⟩
          · rw [if_pos hc8] at h
            refine zv_con hB zd111_92 rfl ?_
            have hw := Option.some.inj h
            refine zv_wk hB (L' := [.inr 0, .inl x1, .inl x2, .inl x3]) (F' := [.inr 1, .inl f1, .inr 4, .inr 1000, .inr 1000, .inl r6.1, .inl r6.2.1, .inl r6.2.2.1, .inl f8, .inl f9, .inl r6.2.2.2.1, .inl f11, .inl f12, .inl f13, .inl f14, .inl f15, .inl r6.2.2.2.2.1, .inl f17, .inl r6.2.2.2.2.2.1, .inl f19, .inl f20, .inl f21, .inl f22, .inr 1000, .inr 1000, .inl f25]) ⟨fun _ => rfl, fun _ => rfl, fun _ => rfl, fun _ => rfl, trivial⟩ ⟨fun _ => rfl, fun _ => rfl, fun _ => rfl, fun (h : zv_is (.inr 1000)) => (Nat.lt_irrefl 1000 h).elim, fun (h : zv_is (.inr 1000)) => (Nat.lt_irrefl 1000 h).elim, fun _ => rfl, fun _ => rfl, fun _ => rfl, fun _ => rfl, fun _ => rfl, fun _ => rfl, fun _ => rfl, fun _ => rfl, fun _ => rfl, fun _ => rfl, fun _ => rfl, fun _ => rfl, fun _ => rfl, fun _ => rfl, fun _ => rfl, fun _ => rfl, fun _ => rfl, fun _ => rfl, fun (h : zv_is (.inr 1000)) => (Nat.lt_irrefl 1000 h).elim, fun (h : zv_is (.inr 1000)) => (Nat.lt_irrefl 1000 h).elim, fun _ => rfl, trivial⟩ ?_
            subst hw
            exact hret _ _ _ _ _ zd111_94 (by trivial) ⟨rfl, rfl, rfl⟩
        · rw [if_pos hc7] at h
          refine zv_ald hB zd111_49 rfl rfl rfl ?_
          refine zv_getr hB zd111_50 rfl ?_
          refine zv_ald hB zd111_53 rfl rfl rfl ?_
          refine zv_getq hB zd111_54 rfl rfl rfl ?_
          refine zv_ald hB zd111_57 rfl rfl rfl ?_
          refine zv_getr hB zd111_58 rfl ?_
          refine zv_getf hB zd111_61 rfl rfl (fun _ _ => ?_)
          refine zv_ald hB zd111_64 rfl rfl rfl ?_
          refine zv_getr hB zd111_65 rfl ?_
          refine zv_getr hB zd111_68 rfl ?_
          refine zv_con hB zd111_71 rfl ?_
          obtain ⟨r12, hr12, h⟩ := zi_bind h
          refine zv_cv hB (zv_emq (va2 := [.inr 18, .inr 1, .inl r6.2.2.2.1, .inr 16, .inl 10000]) (F := [.inr 1, .inl f1, .inr 4, .inr 3, .inr 4, .inl r6.1, .inl r6.2.1, .inl r6.2.2.1, .inl f8, .inl f9, .inl r6.2.2.2.1, .inl f11, .inl f12, .inl f13, .inl f14, .inl f15, .inl r6.2.2.2.2.1, .inl f17, .inl r6.2.2.2.2.2.1, .inl f19, .inl f20, .inl f21, .inl f22, .inr 1000, .inr 1000, .inl f25]) (F' := [.inr 1, .inl f1, .inr 4, .inr 3, .inr 4, .inl r6.1, .inl r6.2.1, .inl r6.2.2.1, .inl f8, .inl f9, .inl r6.2.2.2.1, .inl f11, .inl f12, .inl f13, .inl f14, .inl f15, .inl r6.2.2.2.2.1, .inl f17, .inl r6.2.2.2.2.2.1, .inl f19, .inl f20, .inl f21, .inl f22, .inr 1, .inr 16, .inl r12.2.1]) (G := [r6.2.2.2.2.2.2.1, r6.2.2.2.2.2.2.2.1, g2, g3, g4, g5, g6, g7, g8, r6.2.2.2.2.2.2.2.2.1, g10, r6.2.2.2.2.2.2.2.2.2.1, r6.2.2.2.2.2.2.2.2.2.2, g13, g14, g15, g16]) (G' := [r6.2.2.2.2.2.2.1, r6.2.2.2.2.2.2.2.1, g2, g3, g4, g5, g6, g7, g8, r6.2.2.2.2.2.2.2.2.1, g10, r6.2.2.2.2.2.2.2.2.2.1, r6.2.2.2.2.2.2.2.2.2.2, r12.2.2.1, g14, r12.2.2.2.1, r12.2.2.2.2]) (ρ := [18, 1, 16, 19, 20, 21, 22]) (φ := [23, 24, 25, 22]) (ψ := [11, 13, 14, 15, 16]) [none, none, none, none, none, none, none, none, none, none, none, none, none, none, none, none, none, none, none, none, none, none, some 3, some 0, some 1, some 2] [none, none, none, none, none, none, none, none, none, none, none, some 0, none, some 1, some 2, some 3, some 4] zyw_Matcher_countWays_24 zyw_X_matched zye_X_matched (by decide +kernel) (zt_Matcher_countWays_24 hr12) ⟨⟨_, rfl, fun (h : zv_is (.inr 1000)) => (Nat.lt_irrefl 1000 h).elim⟩, ⟨_, rfl, fun (h : zv_is (.inr 1000)) => (Nat.lt_irrefl 1000 h).elim⟩, ⟨_, rfl, fun _ => rfl⟩, ⟨_, rfl, fun _ => rfl⟩, trivial⟩ ⟨rfl, rfl, rfl, rfl, rfl, trivial⟩ rfl rfl rfl rfl rfl rfl rfl) zd111_74 zxt112 rfl (by decide) (by decide) rfl ?_
          have hw := Option.some.inj h
          refine zv_wk hB (L' := [.inr 0, .inl x1, .inl x2, .inl x3]) (F' := [.inr 1, .inl f1, .inr 4, .inr 1000, .inr 1000, .inl r6.1, .inl r6.2.1, .inl r6.2.2.1, .inl f8, .inl f9, .inl r6.2.2.2.1, .inl f11, .inl f12, .inl f13, .inl f14, .inl f15, .inl r6.2.2.2.2.1, .inl f17, .inl r6.2.2.2.2.2.1, .inl f19, .inl f20, .inl f21, .inl f22, .inr 1000, .inr 1000, .inl r12.2.1]) ⟨fun _ => rfl, fun _ => rfl, fun _ => rfl, fun _ => rfl, trivial⟩ ⟨fun _ => rfl, fun _ => rfl, fun _ => rfl, fun (h : zv_is (.inr 1000)) => (Nat.lt_irrefl 1000 h).elim, fun (h : zv_is (.inr 1000)) => (Nat.lt_irrefl 1000 h).elim, fun _ => rfl, fun _ => rfl, fun _ => rfl, fun _ => rfl, fun _ => rfl, fun _ => rfl, fun _ => rfl, fun _ => rfl, fun _ => rfl, fun _ => rfl, fun _ => rfl, fun _ => rfl, fun _ => rfl, fun _ => rfl, fun _ => rfl, fun _ => rfl, fun _ => rfl, fun _ => rfl, fun (h : zv_is (.inr 1000)) => (Nat.lt_irrefl 1000 h).elim, fun (h : zv_is (.inr 1000)) => (Nat.lt_irrefl 1000 h).elim, fun _ => rfl, trivial⟩ ?_
          subst hw
          exact hret _ _ _ _ _ zd111_77 (by trivial) ⟨rfl, rfl, rfl⟩
      · rw [if_pos hc5] at h
        refine zv_con hB zd111_31 rfl ?_
        have hw := Option.some.inj h
        subst hw
        exact hret _ _ _ _ _ zd111_33 (by trivial) ⟨rfl, rfl, rfl⟩
    · rw [if_pos hc4] at h
      refine zv_con hB zd111_18 rfl ?_
      have hw := Option.some.inj h
      subst hw
      exact hret _ _ _ _ _ zd111_20 (by trivial) ⟨rfl, rfl, rfl⟩
/-! X_canBeTold (I)Z -/
-- names: 0 StarTales('arg', 0), 1 View(0, 0, 12), 2 Law(1, 7, 1), 3 (0, 13)(2, 4, 12), 4 Sky(1, 7, 0), 5 (0, 24)(4, 1, 1), 6 (0, 24)(4, 1, 2), 7 (0, 24)(4, 1, 3), 8 (0, 14)(2, 4, 3), 9 (0, 14)(2, 4, 5), 10 (0, 14)(2, 4, 6), 11 (0, 200)(2, 4, 0), 12 (0, 40)(2, 4, 13), 13 (0, 200)(2, 4, 1), 14 Tale(0, 0, 10), 15 (0, 24)(1, 7, 5), 16 (0, 24)(1, 7, 8), 17 (0, 24)(1, 7, 9), 18 Matcher(0, 0, 14), 19 (0, 72)(18, 8, 0), 20 (0, 8)(14, 6, 2), 21 (0, 24)(18, 8, 1), 22 (0, 8)(18, 8, 2)
-- fields: f0 = 1.law_, f1 = 1.sky_, f2 = 1.x_, f3 = 1.y_, f4 = 4.hour_, f5 = 4.night_, f6 = 1.shown_, f7 = 4.told_, f8 = 4.sightColumns_, f9 = 4.sightRows_, f10 = 4.clouds_, f11 = 2.tellsSeen_, f12 = 1.starsAsked_, f13 = 1.starsHold_, f14 = 2.clauses_, f15 = 2.answer_, f16 = 2.seenByPlace_, f17 = 0.telling_, f18 = 14.names_, f19 = 2.tellsLines_, f20 = 2.linesByPlace_, f21 = 18.tale_, f22 = 18.joined_, f23 = 18.deadEnds_; arrays: g0 = 3, g1 = 5, g2 = 6, g3 = 7, g4 = 8, g5 = 9, g6 = 10, g7 = 11, g8 = 12, g9 = 13, g10 = 15, g11 = 16, g12 = 17, g13 = 19, g14 = 20, g15 = 21, g16 = 22; out: [('ret', None), ('f', 2), ('f', 3), ('f', 6), ('f', 12), ('f', 13), ('f', 15), ('f', 23), ('g', 0), ('g', 8), ('g', 10), ('g', 11), ('g', 12), ('g', 13), ('g', 15), ('g', 16)]
abbrev zy_X_canBeTold : zNL := (23, [(0, 0), (1, 7), (2, 4), (4, 1), (14, 6), (18, 8)], [(1, 7, 1, 0), (1, 7, 0, 1), (1, 7, 2, 2), (1, 7, 3, 3), (4, 1, 6, 4), (4, 1, 7, 5), (1, 7, 4, 6), (4, 1, 0, 7), (4, 1, 9, 8), (4, 1, 10, 9), (4, 1, 8, 10), (2, 4, 8, 11), (1, 7, 6, 12), (1, 7, 7, 13), (2, 4, 7, 14), (2, 4, 14, 15), (2, 4, 10, 16), (0, 0, 10, 17), (14, 6, 1, 18), (2, 4, 9, 19), (2, 4, 11, 20), (18, 8, 3, 21), (18, 8, 4, 22), (18, 8, 6, 23)], [(0, 0, 12, 1), (2, 4, 12, 3), (4, 1, 1, 5), (4, 1, 2, 6), (4, 1, 3, 7), (2, 4, 3, 8), (2, 4, 5, 9), (2, 4, 6, 10), (2, 4, 0, 11), (2, 4, 13, 12), (2, 4, 1, 13), (1, 7, 5, 15), (1, 7, 8, 16), (1, 7, 9, 17), (0, 0, 14, 18), (18, 8, 0, 19), (14, 6, 2, 20), (18, 8, 1, 21), (18, 8, 2, 22)], [(3, 0, 13, 0), (5, 0, 24, 1), (6, 0, 24, 2), (7, 0, 24, 3), (8, 0, 14, 4), (9, 0, 14, 5), (10, 0, 14, 6), (11, 0, 200, 7), (12, 0, 40, 8), (13, 0, 200, 9), (15, 0, 24, 10), (16, 0, 24, 11), (17, 0, 24, 12), (19, 0, 72, 13), (20, 0, 8, 14), (21, 0, 24, 15), (22, 0, 8, 16)])
theorem zyw_X_canBeTold : zv_wf zy_X_canBeTold = true := by decide +kernel
theorem zye_X_canBeTold : zv_ek2 zy_X_canBeTold = true := by decide +kernel
def zf_X_canBeTold (x1 : Int) (f2 : Int) (f3 : Int) (f4 : Int) (f5 : Int) (f6 : Int) (f7 : Int) (f8 : Int) (f9 : Int) (f10 : Int) (f11 : Int) (f12 : Int) (f13 : Int) (f14 : Int) (f15 : Int) (f16 : Int) (f18 : Int) (f19 : Int) (f20 : Int) (f23 : Int) (g0 : (Int → Int)) (g1 : (Int → Int)) (g2 : (Int → Int)) (g3 : (Int → Int)) (g4 : (Int → Int)) (g5 : (Int → Int)) (g6 : (Int → Int)) (g7 : (Int → Int)) (g8 : (Int → Int)) (g9 : (Int → Int)) (g10 : (Int → Int)) (g11 : (Int → Int)) (g12 : (Int → Int)) (g13 : (Int → Int)) (g14 : (Int → Int)) (g15 : (Int → Int)) (g16 : (Int → Int)) : Option (Int × Int × Int × Int × Int × Int × Int × Int × (Int → Int) × (Int → Int) × (Int → Int) × (Int → Int) × (Int → Int) × (Int → Int) × (Int → Int) × (Int → Int)) := (zf_X_columnOf x1).bind fun r1 => ((zf_X_rowOf x1).bind fun r2 => ((zf_View_look r1 r2 f2 f3 f4 f5 f6 f7 f8 f9 f10 f11 f12 f13 f14 f15 f16 g0 g1 g2 g3 g4 g5 g6 g7 g8 g9).bind fun r3 => ((zf_Integer_bitCount r3.2.2.1).bind fun r4 => ((zf_Integer_bitCount f18).bind fun r5 => (if r4 < r5 then (some (0, r3.1, r3.2.1, r3.2.2.1, r3.2.2.2.1, r3.2.2.2.2.1, r3.2.2.2.2.2.1, f23, r3.2.2.2.2.2.2.1, r3.2.2.2.2.2.2.2, g10, g11, g12, g13, g15, g16)) else ((zf_View_draw f19 r3.1 r3.2.1 f4 f5 r3.2.2.1 f14 r3.2.2.2.2.2.1 f20 g10 r3.2.2.2.2.2.2.1 g11 g12 g3 g2 g1 g4 g5 g6 g7 r3.2.2.2.2.2.2.2 g9).bind fun r7 => ((zf_Matcher_countWays_24 r3.2.2.1 1 f23 f18 r7.2.2.2.1 g13 g14 g15 g16).bind fun r8 => (if 0 < r8.1 then (some (1, r7.1, r7.2.1, r3.2.2.1, r3.2.2.2.1, r3.2.2.2.2.1, r7.2.2.1, r8.2.1, r7.2.2.2.2.1, r7.2.2.2.2.2.2.2, r7.2.2.2.1, r7.2.2.2.2.2.1, r7.2.2.2.2.2.2.1, r8.2.2.1, r8.2.2.2.1, r8.2.2.2.2)) else (some (0, r7.1, r7.2.1, r3.2.2.1, r3.2.2.2.1, r3.2.2.2.2.1, r7.2.2.1, r8.2.1, r7.2.2.2.2.1, r7.2.2.2.2.2.2.2, r7.2.2.2.1, r7.2.2.2.2.2.1, r7.2.2.2.2.2.2.1, r8.2.2.1, r8.2.2.2.1, r8.2.2.2.2))))))))))
theorem zd123_0 : decode zxm123.2.1 0 = .ok (.aload_n 0, 1) := by decide +kernel
theorem zd123_1 : decode zxm123.2.1 1 = .ok (.getfield 81, 3) := by decide +kernel
theorem zd123_4 : decode zxm123.2.1 4 = .ok (.iload_n 1, 1) := by decide +kernel
theorem zd123_5 : decode zxm123.2.1 5 = .ok (.invokestatic 293, 3) := by decide +kernel
theorem zd123_8 : decode zxm123.2.1 8 = .ok (.iload_n 1, 1) := by decide +kernel
theorem zd123_9 : decode zxm123.2.1 9 = .ok (.invokestatic 296, 3) := by decide +kernel
theorem zd123_12 : decode zxm123.2.1 12 = .ok (.invokevirtual 214, 3) := by decide +kernel
theorem zd123_15 : decode zxm123.2.1 15 = .ok (.aload_n 0, 1) := by decide +kernel
theorem zd123_16 : decode zxm123.2.1 16 = .ok (.getfield 81, 3) := by decide +kernel
theorem zd123_19 : decode zxm123.2.1 19 = .ok (.getfield 218, 3) := by decide +kernel
theorem zd123_22 : decode zxm123.2.1 22 = .ok (.invokestatic 235, 3) := by decide +kernel
theorem zd123_25 : decode zxm123.2.1 25 = .ok (.aload_n 0, 1) := by decide +kernel
theorem zd123_26 : decode zxm123.2.1 26 = .ok (.getfield 69, 3) := by decide +kernel
theorem zd123_29 : decode zxm123.2.1 29 = .ok (.getfield 260, 3) := by decide +kernel
theorem zd123_32 : decode zxm123.2.1 32 = .ok (.invokestatic 235, 3) := by decide +kernel
theorem zd123_35 : decode zxm123.2.1 35 = .ok (.if_icmp .ge 5, 3) := by decide +kernel
theorem zd123_38 : decode zxm123.2.1 38 = .ok (.iconst 0, 1) := by decide +kernel
theorem zd123_39 : decode zxm123.2.1 39 = .ok (.ireturn, 1) := by decide +kernel
theorem zd123_40 : decode zxm123.2.1 40 = .ok (.aload_n 0, 1) := by decide +kernel
theorem zd123_41 : decode zxm123.2.1 41 = .ok (.getfield 81, 3) := by decide +kernel
theorem zd123_44 : decode zxm123.2.1 44 = .ok (.invokevirtual 403, 3) := by decide +kernel
theorem zd123_47 : decode zxm123.2.1 47 = .ok (.aload_n 0, 1) := by decide +kernel
theorem zd123_48 : decode zxm123.2.1 48 = .ok (.getfield 96, 3) := by decide +kernel
theorem zd123_51 : decode zxm123.2.1 51 = .ok (.aload_n 0, 1) := by decide +kernel
theorem zd123_52 : decode zxm123.2.1 52 = .ok (.getfield 69, 3) := by decide +kernel
theorem zd123_55 : decode zxm123.2.1 55 = .ok (.aload_n 0, 1) := by decide +kernel
theorem zd123_56 : decode zxm123.2.1 56 = .ok (.getfield 81, 3) := by decide +kernel
theorem zd123_59 : decode zxm123.2.1 59 = .ok (.getfield 218, 3) := by decide +kernel
theorem zd123_62 : decode zxm123.2.1 62 = .ok (.aload_n 0, 1) := by decide +kernel
theorem zd123_63 : decode zxm123.2.1 63 = .ok (.getfield 81, 3) := by decide +kernel
theorem zd123_66 : decode zxm123.2.1 66 = .ok (.getfield 90, 3) := by decide +kernel
theorem zd123_69 : decode zxm123.2.1 69 = .ok (.iconst 1, 1) := by decide +kernel
theorem zd123_70 : decode zxm123.2.1 70 = .ok (.invokevirtual 256, 3) := by decide +kernel
theorem zd123_73 : decode zxm123.2.1 73 = .ok (.ifCond .le 7, 3) := by decide +kernel
theorem zd123_76 : decode zxm123.2.1 76 = .ok (.iconst 1, 1) := by decide +kernel
theorem zd123_77 : decode zxm123.2.1 77 = .ok (.goto 4, 3) := by decide +kernel
theorem zd123_80 : decode zxm123.2.1 80 = .ok (.iconst 0, 1) := by decide +kernel
theorem zd123_81 : decode zxm123.2.1 81 = .ok (.ireturn, 1) := by decide +kernel
theorem zt_X_canBeTold {x1 : Int} {f2 : Int} {f3 : Int} {f4 : Int} {f5 : Int} {f6 : Int} {f7 : Int} {f8 : Int} {f9 : Int} {f10 : Int} {f11 : Int} {f12 : Int} {f13 : Int} {f14 : Int} {f15 : Int} {f16 : Int} {f18 : Int} {f19 : Int} {f20 : Int} {f23 : Int} {g0 : (Int → Int)} {g1 : (Int → Int)} {g2 : (Int → Int)} {g3 : (Int → Int)} {g4 : (Int → Int)} {g5 : (Int → Int)} {g6 : (Int → Int)} {g7 : (Int → Int)} {g8 : (Int → Int)} {g9 : (Int → Int)} {g10 : (Int → Int)} {g11 : (Int → Int)} {g12 : (Int → Int)} {g13 : (Int → Int)} {g14 : (Int → Int)} {g15 : (Int → Int)} {g16 : (Int → Int)} {o : Int × Int × Int × Int × Int × Int × Int × Int × (Int → Int) × (Int → Int) × (Int → Int) × (Int → Int) × (Int → Int) × (Int → Int) × (Int → Int) × (Int → Int)} (h : zf_X_canBeTold x1 f2 f3 f4 f5 f6 f7 f8 f9 f10 f11 f12 f13 f14 f15 f16 f18 f19 f20 f23 g0 g1 g2 g3 g4 g5 g6 g7 g8 g9 g10 g11 g12 g13 g14 g15 g16 = some o) : zv_Fn z_TB z_cl z_KX zy_X_canBeTold zxm123 (13, 780) [.inr 0, .inl x1] [.inr 2, .inr 4, .inl f2, .inl f3, .inl f4, .inl f5, .inl f6, .inl f7, .inl f8, .inl f9, .inl f10, .inl f11, .inl f12, .inl f13, .inl f14, .inl f15, .inl f16, .inr 14, .inl f18, .inl f19, .inl f20, .inr 1000, .inr 1000, .inl f23] [g0, g1, g2, g3, g4, g5, g6, g7, g8, g9, g10, g11, g12, g13, g14, g15, g16] (some o.1) [.inr 2, .inr 4, .inl o.2.1, .inl o.2.2.1, .inl f4, .inl f5, .inl o.2.2.2.1, .inl f7, .inl f8, .inl f9, .inl f10, .inl f11, .inl o.2.2.2.2.1, .inl o.2.2.2.2.2.1, .inl f14, .inl o.2.2.2.2.2.2.1, .inl f16, .inr 14, .inl f18, .inl f19, .inl f20, .inr 1000, .inr 1000, .inl o.2.2.2.2.2.2.2.1] [o.2.2.2.2.2.2.2.2.1, g1, g2, g3, g4, g5, g6, g7, o.2.2.2.2.2.2.2.2.2.1, g9, o.2.2.2.2.2.2.2.2.2.2.1, o.2.2.2.2.2.2.2.2.2.2.2.1, o.2.2.2.2.2.2.2.2.2.2.2.2.1, o.2.2.2.2.2.2.2.2.2.2.2.2.2.1, g14, o.2.2.2.2.2.2.2.2.2.2.2.2.2.2.1, o.2.2.2.2.2.2.2.2.2.2.2.2.2.2.2] := zv_meth (K := (z_KF0, z_KC0, z_KL0, z_KT0, [], [], [], none)) (FT := z_FT) (MT := z_MT) (n := 2) zxp123 (z_ks0 _ (fun _ h => List.mem_cons_of_mem _ h) _ _ _ _ (fun j r h _ => by cases h)) (fun _ _ => zs_KX_p) zyw_X_canBeTold (fun va F G h => by obtain ⟨rfl, _⟩ := h; rfl) (fun va F G h => by obtain ⟨rfl, _⟩ := h; rfl) rfl fun good va F G hB hret hvret hP => by
  obtain ⟨rfl, rfl, rfl⟩ := hP
  unfold zf_X_canBeTold at h
  refine zv_ald hB zd123_0 rfl rfl rfl ?_
  refine zv_getr hB zd123_1 rfl ?_
  refine zv_ild hB zd123_4 rfl rfl ?_
  obtain ⟨r1, hr1, h⟩ := zi_bind h
  refine zv_cs hB (zv_emq (va2 := [.inl x1]) (F := [.inr 2, .inr 4, .inl f2, .inl f3, .inl f4, .inl f5, .inl f6, .inl f7, .inl f8, .inl f9, .inl f10, .inl f11, .inl f12, .inl f13, .inl f14, .inl f15, .inl f16, .inr 14, .inl f18, .inl f19, .inl f20, .inr 1000, .inr 1000, .inl f23]) (F' := [.inr 2, .inr 4, .inl f2, .inl f3, .inl f4, .inl f5, .inl f6, .inl f7, .inl f8, .inl f9, .inl f10, .inl f11, .inl f12, .inl f13, .inl f14, .inl f15, .inl f16, .inr 14, .inl f18, .inl f19, .inl f20, .inr 1000, .inr 1000, .inl f23]) (G := [g0, g1, g2, g3, g4, g5, g6, g7, g8, g9, g10, g11, g12, g13, g14, g15, g16]) (G' := [g0, g1, g2, g3, g4, g5, g6, g7, g8, g9, g10, g11, g12, g13, g14, g15, g16]) (ρ := []) (φ := []) (ψ := []) [none, none, none, none, none, none, none, none, none, none, none, none, none, none, none, none, none, none, none, none, none, none, none, none] [none, none, none, none, none, none, none, none, none, none, none, none, none, none, none, none, none] zyw_X_columnOf zyw_X_canBeTold zye_X_canBeTold (by decide +kernel) (zt_X_columnOf hr1) trivial trivial rfl rfl rfl rfl rfl rfl rfl) zd123_5 zxt31 rfl (by decide) (by decide) rfl ?_
  refine zv_ild hB zd123_8 rfl rfl ?_
  obtain ⟨r2, hr2, h⟩ := zi_bind h
  refine zv_cs hB (zv_emq (va2 := [.inl x1]) (F := [.inr 2, .inr 4, .inl f2, .inl f3, .inl f4, .inl f5, .inl f6, .inl f7, .inl f8, .inl f9, .inl f10, .inl f11, .inl f12, .inl f13, .inl f14, .inl f15, .inl f16, .inr 14, .inl f18, .inl f19, .inl f20, .inr 1000, .inr 1000, .inl f23]) (F' := [.inr 2, .inr 4, .inl f2, .inl f3, .inl f4, .inl f5, .inl f6, .inl f7, .inl f8, .inl f9, .inl f10, .inl f11, .inl f12, .inl f13, .inl f14, .inl f15, .inl f16, .inr 14, .inl f18, .inl f19, .inl f20, .inr 1000, .inr 1000, .inl f23]) (G := [g0, g1, g2, g3, g4, g5, g6, g7, g8, g9, g10, g11, g12, g13, g14, g15, g16]) (G' := [g0, g1, g2, g3, g4, g5, g6, g7, g8, g9, g10, g11, g12, g13, g14, g15, g16]) (ρ := []) (φ := []) (ψ := []) [none, none, none, none, none, none, none, none, none, none, none, none, none, none, none, none, none, none, none, none, none, none, none, none] [none, none, none, none, none, none, none, none, none, none, none, none, none, none, none, none, none] zyw_X_rowOf zyw_X_canBeTold zye_X_canBeTold (by decide +kernel) (zt_X_rowOf hr2) trivial trivial rfl rfl rfl rfl rfl rfl rfl) zd123_9 zxt30 rfl (by decide) (by decide) rfl ?_
  obtain ⟨r3, hr3, h⟩ := zi_bind h
  refine zv_cv hB (zv_emq (va2 := [.inr 1, .inl r1, .inl r2]) (F := [.inr 2, .inr 4, .inl f2, .inl f3, .inl f4, .inl f5, .inl f6, .inl f7, .inl f8, .inl f9, .inl f10, .inl f11, .inl f12, .inl f13, .inl f14, .inl f15, .inl f16, .inr 14, .inl f18, .inl f19, .inl f20, .inr 1000, .inr 1000, .inl f23]) (F' := [.inr 2, .inr 4, .inl r3.1, .inl r3.2.1, .inl f4, .inl f5, .inl r3.2.2.1, .inl f7, .inl f8, .inl f9, .inl f10, .inl f11, .inl r3.2.2.2.1, .inl r3.2.2.2.2.1, .inl f14, .inl r3.2.2.2.2.2.1, .inl f16, .inr 14, .inl f18, .inl f19, .inl f20, .inr 1000, .inr 1000, .inl f23]) (G := [g0, g1, g2, g3, g4, g5, g6, g7, g8, g9, g10, g11, g12, g13, g14, g15, g16]) (G' := [r3.2.2.2.2.2.2.1, g1, g2, g3, g4, g5, g6, g7, r3.2.2.2.2.2.2.2, g9, g10, g11, g12, g13, g14, g15, g16]) (ρ := [1, 2, 3, 4, 5, 6, 7, 8, 9, 10, 11, 12, 13]) (φ := [0, 1, 2, 3, 4, 5, 6, 7, 8, 9, 10, 11, 12, 13, 14, 15, 16]) (ψ := [0, 1, 2, 3, 4, 5, 6, 7, 8, 9]) [some 0, some 1, some 2, some 3, some 4, some 5, some 6, some 7, some 8, some 9, some 10, some 11, some 12, some 13, some 14, some 15, some 16, none, none, none, none, none, none, none] [some 0, some 1, some 2, some 3, some 4, some 5, some 6, some 7, some 8, some 9, none, none, none, none, none, none, none] zyw_View_look zyw_X_canBeTold zye_X_canBeTold (by decide +kernel) (zt_View_look hr3) ⟨⟨_, rfl, fun _ => rfl⟩, ⟨_, rfl, fun _ => rfl⟩, ⟨_, rfl, fun _ => rfl⟩, ⟨_, rfl, fun _ => rfl⟩, ⟨_, rfl, fun _ => rfl⟩, ⟨_, rfl, fun _ => rfl⟩, ⟨_, rfl, fun _ => rfl⟩, ⟨_, rfl, fun _ => rfl⟩, ⟨_, rfl, fun _ => rfl⟩, ⟨_, rfl, fun _ => rfl⟩, ⟨_, rfl, fun _ => rfl⟩, ⟨_, rfl, fun _ => rfl⟩, ⟨_, rfl, fun _ => rfl⟩, ⟨_, rfl, fun _ => rfl⟩, ⟨_, rfl, fun _ => rfl⟩, ⟨_, rfl, fun _ => rfl⟩, ⟨_, rfl, fun _ => rfl⟩, trivial⟩ ⟨rfl, rfl, rfl, rfl, rfl, rfl, rfl, rfl, rfl, rfl, trivial⟩ rfl rfl rfl rfl rfl rfl rfl) zd123_12 zxt85 rfl (by decide) (by decide) rfl ?_
  refine zv_ald hB zd123_15 rfl rfl rfl ?_
  refine zv_getr hB zd123_16 rfl ?_
  refine zv_getf hB zd123_19 rfl rfl (fun _ _ => ?_)
  obtain ⟨r4, hr4, h⟩ := zi_bind h
  refine zv_cs hB (zv_emq (va2 := [.inl r3.2.2.1]) (F := [.inr 2, .inr 4, .inl r3.1, .inl r3.2.1, .inl f4, .inl f5, .inl r3.2.2.1, .inl f7, .inl f8, .inl f9, .inl f10, .inl f11, .inl r3.2.2.2.1, .inl r3.2.2.2.2.1, .inl f14, .inl r3.2.2.2.2.2.1, .inl f16, .inr 14, .inl f18, .inl f19, .inl f20, .inr 1000, .inr 1000, .inl f23]) (F' := [.inr 2, .inr 4, .inl r3.1, .inl r3.2.1, .inl f4, .inl f5, .inl r3.2.2.1, .inl f7, .inl f8, .inl f9, .inl f10, .inl f11, .inl r3.2.2.2.1, .inl r3.2.2.2.2.1, .inl f14, .inl r3.2.2.2.2.2.1, .inl f16, .inr 14, .inl f18, .inl f19, .inl f20, .inr 1000, .inr 1000, .inl f23]) (G := [r3.2.2.2.2.2.2.1, g1, g2, g3, g4, g5, g6, g7, r3.2.2.2.2.2.2.2, g9, g10, g11, g12, g13, g14, g15, g16]) (G' := [r3.2.2.2.2.2.2.1, g1, g2, g3, g4, g5, g6, g7, r3.2.2.2.2.2.2.2, g9, g10, g11, g12, g13, g14, g15, g16]) (ρ := []) (φ := []) (ψ := []) [none, none, none, none, none, none, none, none, none, none, none, none, none, none, none, none, none, none, none, none, none, none, none, none] [none, none, none, none, none, none, none, none, none, none, none, none, none, none, none, none, none] zyw_Integer_bitCount zyw_X_canBeTold zye_X_canBeTold (by decide +kernel) (zt_Integer_bitCount hr4) trivial trivial rfl rfl rfl rfl rfl rfl rfl) zd123_22 zxt102 rfl (by decide) (by decide) rfl ?_
  refine zv_ald hB zd123_25 rfl rfl rfl ?_
  refine zv_getq hB zd123_26 rfl rfl rfl ?_
  refine zv_getf hB zd123_29 rfl rfl (fun _ _ => ?_)
  obtain ⟨r5, hr5, h⟩ := zi_bind h
  refine zv_cs hB (zv_emq (va2 := [.inl f18]) (F := [.inr 2, .inr 4, .inl r3.1, .inl r3.2.1, .inl f4, .inl f5, .inl r3.2.2.1, .inl f7, .inl f8, .inl f9, .inl f10, .inl f11, .inl r3.2.2.2.1, .inl r3.2.2.2.2.1, .inl f14, .inl r3.2.2.2.2.2.1, .inl f16, .inr 14, .inl f18, .inl f19, .inl f20, .inr 1000, .inr 1000, .inl f23]) (F' := [.inr 2, .inr 4, .inl r3.1, .inl r3.2.1, .inl f4, .inl f5, .inl r3.2.2.1, .inl f7, .inl f8, .inl f9, .inl f10, .inl f11, .inl r3.2.2.2.1, .inl r3.2.2.2.2.1, .inl f14, .inl r3.2.2.2.2.2.1, .inl f16, .inr 14, .inl f18, .inl f19, .inl f20, .inr 1000, .inr 1000, .inl f23]) (G := [r3.2.2.2.2.2.2.1, g1, g2, g3, g4, g5, g6, g7, r3.2.2.2.2.2.2.2, g9, g10, g11, g12, g13, g14, g15, g16]) (G' := [r3.2.2.2.2.2.2.1, g1, g2, g3, g4, g5, g6, g7, r3.2.2.2.2.2.2.2, g9, g10, g11, g12, g13, g14, g15, g16]) (ρ := []) (φ := []) (ψ := []) [none, none, none, none, none, none, none, none, none, none, none, none, none, none, none, none, none, none, none, none, none, none, none, none] [none, none, none, none, none, none, none, none, none, none, none, none, none, none, none, none, none] zyw_Integer_bitCount zyw_X_canBeTold zye_X_canBeTold (by decide +kernel) (zt_Integer_bitCount hr5) trivial trivial rfl rfl rfl rfl rfl rfl rfl) zd123_32 zxt102 rfl (by decide) (by decide) rfl ?_
  refine zv_cge hB zd123_35 rfl (fun hc6 => ?_) (fun hc6 => ?_)
  · rw [if_neg (Int.not_lt.mpr hc6)] at h
    refine zv_ald hB zd123_40 rfl rfl rfl ?_
    refine zv_getr hB zd123_41 rfl ?_
    obtain ⟨r7, hr7, h⟩ := zi_bind h
    refine zv_cv hB (zv_emq (va2 := [.inr 1]) (F := [.inr 2, .inr 4, .inl r3.1, .inl r3.2.1, .inl f4, .inl f5, .inl r3.2.2.1, .inl f7, .inl f8, .inl f9, .inl f10, .inl f11, .inl r3.2.2.2.1, .inl r3.2.2.2.2.1, .inl f14, .inl r3.2.2.2.2.2.1, .inl f16, .inr 14, .inl f18, .inl f19, .inl f20, .inr 1000, .inr 1000, .inl f23]) (F' := [.inr 2, .inr 4, .inl r7.1, .inl r7.2.1, .inl f4, .inl f5, .inl r3.2.2.1, .inl f7, .inl f8, .inl f9, .inl f10, .inl f11, .inl r3.2.2.2.1, .inl r3.2.2.2.2.1, .inl f14, .inl r7.2.2.1, .inl f16, .inr 14, .inl f18, .inl f19, .inl f20, .inr 1000, .inr 1000, .inl f23]) (G := [r3.2.2.2.2.2.2.1, g1, g2, g3, g4, g5, g6, g7, r3.2.2.2.2.2.2.2, g9, g10, g11, g12, g13, g14, g15, g16]) (G' := [r7.2.2.2.2.1, g1, g2, g3, g4, g5, g6, g7, r7.2.2.2.2.2.2.2, g9, r7.2.2.2.1, r7.2.2.2.2.2.1, r7.2.2.2.2.2.2.1, g13, g14, g15, g16]) (ρ := [1, 15, 2, 3, 4, 16, 17, 7, 6, 5, 8, 9, 10, 11, 12, 13]) (φ := [0, 19, 2, 3, 1, 4, 5, 6, 14, 15, 20]) (ψ := [10, 0, 11, 12, 3, 2, 1, 4, 5, 6, 7, 8, 9]) [some 0, some 4, some 2, some 3, some 5, some 6, some 7, none, none, none, none, none, none, none, some 8, some 9, none, none, none, some 1, some 10, none, none, none] [some 1, some 6, some 5, some 4, some 7, some 8, some 9, some 10, some 11, some 12, some 0, some 2, some 3, none, none, none, none] zyw_View_draw zyw_X_canBeTold zye_X_canBeTold (by decide +kernel) (zt_View_draw hr7) ⟨⟨_, rfl, fun _ => rfl⟩, ⟨_, rfl, fun _ => rfl⟩, ⟨_, rfl, fun _ => rfl⟩, ⟨_, rfl, fun _ => rfl⟩, ⟨_, rfl, fun _ => rfl⟩, ⟨_, rfl, fun _ => rfl⟩, ⟨_, rfl, fun _ => rfl⟩, ⟨_, rfl, fun _ => rfl⟩, ⟨_, rfl, fun _ => rfl⟩, ⟨_, rfl, fun _ => rfl⟩, ⟨_, rfl, fun _ => rfl⟩, trivial⟩ ⟨rfl, rfl, rfl, rfl, rfl, rfl, rfl, rfl, rfl, rfl, rfl, rfl, rfl, trivial⟩ rfl rfl rfl rfl rfl rfl rfl) zd123_44 zxt97 rfl (by decide) (by decide) rfl ?_
    refine zv_ald hB zd123_47 rfl rfl rfl ?_
    refine zv_getr hB zd123_48 rfl ?_
    refine zv_ald hB zd123_51 rfl rfl rfl ?_
    refine zv_getq hB zd123_52 rfl rfl rfl ?_
    refine zv_ald hB zd123_55 rfl rfl rfl ?_
    refine zv_getr hB zd123_56 rfl ?_
    refine zv_getf hB zd123_59 rfl rfl (fun _ _ => ?_)
    refine zv_ald hB zd123_62 rfl rfl rfl ?_
    refine zv_getr hB zd123_63 rfl ?_
    refine zv_getr hB zd123_66 rfl ?_
    refine zv_con hB zd123_69 rfl ?_
    obtain ⟨r8, hr8, h⟩ := zi_bind h
    refine zv_cv hB (zv_emq (va2 := [.inr 18, .inr 14, .inl r3.2.2.1, .inr 15, .inl 1]) (F := [.inr 2, .inr 4, .inl r7.1, .inl r7.2.1, .inl f4, .inl f5, .inl r3.2.2.1, .inl f7, .inl f8, .inl f9, .inl f10, .inl f11, .inl r3.2.2.2.1, .inl r3.2.2.2.2.1, .inl f14, .inl r7.2.2.1, .inl f16, .inr 14, .inl f18, .inl f19, .inl f20, .inr 1000, .inr 1000, .inl f23]) (F' := [.inr 2, .inr 4, .inl r7.1, .inl r7.2.1, .inl f4, .inl f5, .inl r3.2.2.1, .inl f7, .inl f8, .inl f9, .inl f10, .inl f11, .inl r3.2.2.2.1, .inl r3.2.2.2.2.1, .inl f14, .inl r7.2.2.1, .inl f16, .inr 14, .inl f18, .inl f19, .inl f20, .inr 14, .inr 15, .inl r8.2.1]) (G := [r7.2.2.2.2.1, g1, g2, g3, g4, g5, g6, g7, r7.2.2.2.2.2.2.2, g9, r7.2.2.2.1, r7.2.2.2.2.2.1, r7.2.2.2.2.2.2.1, g13, g14, g15, g16]) (G' := [r7.2.2.2.2.1, g1, g2, g3, g4, g5, g6, g7, r7.2.2.2.2.2.2.2, g9, r7.2.2.2.1, r7.2.2.2.2.2.1, r7.2.2.2.2.2.2.1, r8.2.2.1, g14, r8.2.2.2.1, r8.2.2.2.2]) (ρ := [18, 14, 15, 19, 20, 21, 22]) (φ := [21, 22, 23, 18]) (ψ := [10, 13, 14, 15, 16]) [none, none, none, none, none, none, none, none, none, none, none, none, none, none, none, none, none, none, some 3, none, none, some 0, some 1, some 2] [none, none, none, none, none, none, none, none, none, none, some 0, none, none, some 1, some 2, some 3, some 4] zyw_Matcher_countWays_24 zyw_X_canBeTold zye_X_canBeTold (by decide +kernel) (zt_Matcher_countWays_24 hr8) ⟨⟨_, rfl, fun (h : zv_is (.inr 1000)) => (Nat.lt_irrefl 1000 h).elim⟩, ⟨_, rfl, fun (h : zv_is (.inr 1000)) => (Nat.lt_irrefl 1000 h).elim⟩, ⟨_, rfl, fun _ => rfl⟩, ⟨_, rfl, fun _ => rfl⟩, trivial⟩ ⟨rfl, rfl, rfl, rfl, rfl, trivial⟩ rfl rfl rfl rfl rfl rfl rfl) zd123_70 zxt112 rfl (by decide) (by decide) rfl ?_
    refine zv_zle hB zd123_73 rfl (fun hc9 => ?_) (fun hc9 => ?_)
    · rw [if_neg (Int.not_lt.mpr hc9)] at h
      refine zv_con hB zd123_80 rfl ?_
      have hw := Option.some.inj h
      refine zv_wk hB (L' := [.inr 0, .inl x1]) (F' := [.inr 2, .inr 4, .inl r7.1, .inl r7.2.1, .inl f4, .inl f5, .inl r3.2.2.1, .inl f7, .inl f8, .inl f9, .inl f10, .inl f11, .inl r3.2.2.2.1, .inl r3.2.2.2.2.1, .inl f14, .inl r7.2.2.1, .inl f16, .inr 14, .inl f18, .inl f19, .inl f20, .inr 1000, .inr 1000, .inl r8.2.1]) ⟨fun _ => rfl, fun _ => rfl, trivial⟩ ⟨fun _ => rfl, fun _ => rfl, fun _ => rfl, fun _ => rfl, fun _ => rfl, fun _ => rfl, fun _ => rfl, fun _ => rfl, fun _ => rfl, fun _ => rfl, fun _ => rfl, fun _ => rfl, fun _ => rfl, fun _ => rfl, fun _ => rfl, fun _ => rfl, fun _ => rfl, fun _ => rfl, fun _ => rfl, fun _ => rfl, fun _ => rfl, fun (h : zv_is (.inr 1000)) => (Nat.lt_irrefl 1000 h).elim, fun (h : zv_is (.inr 1000)) => (Nat.lt_irrefl 1000 h).elim, fun _ => rfl, trivial⟩ ?_
      subst hw
      exact hret _ _ _ _ _ zd123_81 (by constructor <;> decide) ⟨rfl, rfl, rfl⟩
    · rw [if_pos hc9] at h
      refine zv_con hB zd123_76 rfl ?_
      refine zv_goto hB zd123_77 rfl ?_
      have hw := Option.some.inj h
      refine zv_wk hB (L' := [.inr 0, .inl x1]) (F' := [.inr 2, .inr 4, .inl r7.1, .inl r7.2.1, .inl f4, .inl f5, .inl r3.2.2.1, .inl f7, .inl f8, .inl f9, .inl f10, .inl f11, .inl r3.2.2.2.1, .inl r3.2.2.2.2.1, .inl f14, .inl r7.2.2.1, .inl f16, .inr 14, .inl f18, .inl f19, .inl f20, .inr 1000, .inr 1000, .inl r8.2.1]) ⟨fun _ => rfl, fun _ => rfl, trivial⟩ ⟨fun _ => rfl, fun _ => rfl, fun _ => rfl, fun _ => rfl, fun _ => rfl, fun _ => rfl, fun _ => rfl, fun _ => rfl, fun _ => rfl, fun _ => rfl, fun _ => rfl, fun _ => rfl, fun _ => rfl, fun _ => rfl, fun _ => rfl, fun _ => rfl, fun _ => rfl, fun _ => rfl, fun _ => rfl, fun _ => rfl, fun _ => rfl, fun (h : zv_is (.inr 1000)) => (Nat.lt_irrefl 1000 h).elim, fun (h : zv_is (.inr 1000)) => (Nat.lt_irrefl 1000 h).elim, fun _ => rfl, trivial⟩ ?_
      subst hw
      exact hret _ _ _ _ _ zd123_81 (by constructor <;> decide) ⟨rfl, rfl, rfl⟩
  · rw [if_pos hc6] at h
    refine zv_con hB zd123_38 rfl ?_
    have hw := Option.some.inj h
    subst hw
    exact hret _ _ _ _ _ zd123_39 (by constructor <;> decide) ⟨rfl, rfl, rfl⟩
end
