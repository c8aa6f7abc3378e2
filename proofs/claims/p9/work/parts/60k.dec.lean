/-! Methods as functions, and that they do what these do. -/
/-! View_goTo (II)V -/
-- names: 0 View('arg', 0), 1 Law(0, 7, 1), 2 (0, 13)(1, 4, 12), 3 Sky(0, 7, 0)
-- fields: f0 = 0.x_, f1 = 0.y_, f2 = 0.law_, f3 = 0.sky_, f4 = 3.hour_, f5 = 3.night_; arrays: g0 = 2; out: [('f', 0), ('f', 1), ('g', 0)]
abbrev zy_View_goTo : zNL := (4, [(0, 7), (1, 4), (3, 1)], [(0, 7, 2, 0), (0, 7, 3, 1), (0, 7, 1, 2), (0, 7, 0, 3), (3, 1, 6, 4), (3, 1, 7, 5)], [(1, 4, 12, 2)], [(2, 0, 13, 0)])
theorem zyw_View_goTo : zv_wf zy_View_goTo = true := by decide +kernel
theorem zye_View_goTo : zv_ek2 zy_View_goTo = true := by decide +kernel
def zf_View_goTo (x1 : Int) (x2 : Int) (f0 : Int) (f1 : Int) (f4 : Int) (f5 : Int) (g0 : (Int → Int)) : Option (Int × Int × (Int → Int)) := (zf_Law_forgetLetters g0).bind fun r1 => ((zf_Law_setTime f4 f5 r1).bind fun r2 => (some (x1, x2, (zv_up (zv_up r2 10 x1) 11 x2))))
theorem zd86_0 : decode zxm86.2.1 0 = .ok (.aload_n 0, 1) := by decide +kernel
theorem zd86_1 : decode zxm86.2.1 1 = .ok (.iload_n 1, 1) := by decide +kernel
theorem zd86_2 : decode zxm86.2.1 2 = .ok (.putfield 9, 3) := by decide +kernel
theorem zd86_5 : decode zxm86.2.1 5 = .ok (.aload_n 0, 1) := by decide +kernel
theorem zd86_6 : decode zxm86.2.1 6 = .ok (.iload_n 2, 1) := by decide +kernel
theorem zd86_7 : decode zxm86.2.1 7 = .ok (.putfield 15, 3) := by decide +kernel
theorem zd86_10 : decode zxm86.2.1 10 = .ok (.aload_n 0, 1) := by decide +kernel
theorem zd86_11 : decode zxm86.2.1 11 = .ok (.getfield 41, 3) := by decide +kernel
theorem zd86_14 : decode zxm86.2.1 14 = .ok (.invokevirtual 51, 3) := by decide +kernel
theorem zd86_17 : decode zxm86.2.1 17 = .ok (.aload_n 0, 1) := by decide +kernel
theorem zd86_18 : decode zxm86.2.1 18 = .ok (.getfield 41, 3) := by decide +kernel
theorem zd86_21 : decode zxm86.2.1 21 = .ok (.aload_n 0, 1) := by decide +kernel
theorem zd86_22 : decode zxm86.2.1 22 = .ok (.getfield 37, 3) := by decide +kernel
theorem zd86_25 : decode zxm86.2.1 25 = .ok (.invokevirtual 56, 3) := by decide +kernel
theorem zd86_28 : decode zxm86.2.1 28 = .ok (.aload_n 0, 1) := by decide +kernel
theorem zd86_29 : decode zxm86.2.1 29 = .ok (.getfield 41, 3) := by decide +kernel
theorem zd86_32 : decode zxm86.2.1 32 = .ok (.getfield 60, 3) := by decide +kernel
theorem zd86_35 : decode zxm86.2.1 35 = .ok (.bipush 10, 2) := by decide +kernel
theorem zd86_37 : decode zxm86.2.1 37 = .ok (.iload_n 1, 1) := by decide +kernel
theorem zd86_38 : decode zxm86.2.1 38 = .ok (.iastore, 1) := by decide +kernel
theorem zd86_39 : decode zxm86.2.1 39 = .ok (.aload_n 0, 1) := by decide +kernel
theorem zd86_40 : decode zxm86.2.1 40 = .ok (.getfield 41, 3) := by decide +kernel
theorem zd86_43 : decode zxm86.2.1 43 = .ok (.getfield 60, 3) := by decide +kernel
theorem zd86_46 : decode zxm86.2.1 46 = .ok (.bipush 11, 2) := by decide +kernel
theorem zd86_48 : decode zxm86.2.1 48 = .ok (.iload_n 2, 1) := by decide +kernel
theorem zd86_49 : decode zxm86.2.1 49 = .ok (.iastore, 1) := by decide +kernel
theorem zd86_50 : decode zxm86.2.1 50 = .ok (.return_, 1) := by decide +kernel
theorem zt_View_goTo {x1 : Int} {x2 : Int} {f0 : Int} {f1 : Int} {f4 : Int} {f5 : Int} {g0 : (Int → Int)} {o : Int × Int × (Int → Int)} (h : zf_View_goTo x1 x2 f0 f1 f4 f5 g0 = some o) : zv_Fn z_TB z_cl z_KX zy_View_goTo zxm86 (2, 120) [.inr 0, .inl x1, .inl x2] [.inl f0, .inl f1, .inr 1, .inr 3, .inl f4, .inl f5] [g0] none [.inl o.1, .inl o.2.1, .inr 1, .inr 3, .inl f4, .inl f5] [o.2.2] := zv_meth (K := (z_KF11, z_KC11, z_KL11, z_KT11, [], [], [], none)) (FT := z_FT) (MT := z_MT) (n := 3) zxp86 (z_ks11 _ (fun _ h => List.mem_cons_of_mem _ h) _ _ _ _ (fun j r h _ => by cases h)) (fun _ _ => zs_KX_p) zyw_View_goTo (fun va F G h => by obtain ⟨rfl, _⟩ := h; rfl) (fun va F G h => by obtain ⟨rfl, _⟩ := h; rfl) rfl fun good va F G hB hret hvret hP => by
  obtain ⟨rfl, rfl, rfl⟩ := hP
  unfold zf_View_goTo at h
  refine zv_ald hB zd86_0 rfl rfl rfl ?_
  refine zv_ild hB zd86_1 rfl rfl ?_
  refine zv_putf hB zd86_2 rfl rfl (fun h => by cases h) rfl ?_
  refine zv_ald hB zd86_5 rfl rfl rfl ?_
  refine zv_ild hB zd86_6 rfl rfl ?_
  refine zv_putf hB zd86_7 rfl rfl (fun h => by cases h) rfl ?_
  refine zv_ald hB zd86_10 rfl rfl rfl ?_
  refine zv_getq hB zd86_11 rfl rfl rfl ?_
  obtain ⟨r1, hr1, h⟩ := zi_bind h
  refine zv_cv hB (zv_emq (va2 := [.inr 1]) (F := [.inl x1, .inl x2, .inr 1, .inr 3, .inl f4, .inl f5]) (F' := [.inl x1, .inl x2, .inr 1, .inr 3, .inl f4, .inl f5]) (G := [g0]) (G' := [r1]) (ρ := [1, 2]) (φ := []) (ψ := [0]) [none, none, none, none, none, none] [some 0] zyw_Law_forgetLetters zyw_View_goTo zye_View_goTo (by decide +kernel) (zt_Law_forgetLetters hr1) trivial ⟨rfl, trivial⟩ rfl rfl rfl rfl rfl rfl rfl) zd86_14 zxt87 rfl (by decide) (by decide) rfl ?_
  refine zv_ald hB zd86_17 rfl rfl rfl ?_
  refine zv_getq hB zd86_18 rfl rfl rfl ?_
  refine zv_ald hB zd86_21 rfl rfl rfl ?_
  refine zv_getq hB zd86_22 rfl rfl rfl ?_
  obtain ⟨r2, hr2, h⟩ := zi_bind h
  refine zv_cv hB (zv_emq (va2 := [.inr 1, .inr 3]) (F := [.inl x1, .inl x2, .inr 1, .inr 3, .inl f4, .inl f5]) (F' := [.inl x1, .inl x2, .inr 1, .inr 3, .inl f4, .inl f5]) (G := [r1]) (G' := [r2]) (ρ := [1, 3, 2]) (φ := [4, 5]) (ψ := [0]) [none, none, none, none, some 0, some 1] [some 0] zyw_Law_setTime zyw_View_goTo zye_View_goTo (by decide +kernel) (zt_Law_setTime hr2) ⟨⟨_, rfl, fun _ => rfl⟩, ⟨_, rfl, fun _ => rfl⟩, trivial⟩ ⟨rfl, trivial⟩ rfl rfl rfl rfl rfl rfl rfl) zd86_25 zxt88 rfl (by decide) (by decide) rfl ?_
  refine zv_ald hB zd86_28 rfl rfl rfl ?_
  refine zv_getq hB zd86_29 rfl rfl rfl ?_
  refine zv_getr hB zd86_32 rfl ?_
  refine zv_con hB zd86_35 rfl ?_
  refine zv_ild hB zd86_37 rfl rfl ?_
  refine zv_iast hB zd86_38 rfl rfl (by decide) (by decide) ?_
  refine zv_ald hB zd86_39 rfl rfl rfl ?_
  refine zv_getq hB zd86_40 rfl rfl rfl ?_
  refine zv_getr hB zd86_43 rfl ?_
  refine zv_con hB zd86_46 rfl ?_
  refine zv_ild hB zd86_48 rfl rfl ?_
  refine zv_iast hB zd86_49 rfl rfl (by decide) (by decide) ?_
  have hw := Option.some.inj h
  subst hw
  exact hvret _ _ _ _ zd86_50 trivial ⟨rfl, rfl, rfl⟩
/-! Math_abs (I)I -/
-- names: 
-- fields: ; arrays: ; out: [('ret', None)]
abbrev zy_Math_abs : zNL := (0, [], [], [], [])
theorem zyw_Math_abs : zv_wf zy_Math_abs = true := by decide +kernel
theorem zye_Math_abs : zv_ek2 zy_Math_abs = true := by decide +kernel
def zf_Math_abs (x0 : Int) : Option (Int) := if x0 < 0 then (some (zi_w (-x0))) else (some x0)
theorem zd91_0 : decode zxm91.2.1 0 = .ok (.iload_n 0, 1) := by decide +kernel
theorem zd91_1 : decode zxm91.2.1 1 = .ok (.ifCond .ge 8, 3) := by decide +kernel
theorem zd91_4 : decode zxm91.2.1 4 = .ok (.iload_n 0, 1) := by decide +kernel
theorem zd91_5 : decode zxm91.2.1 5 = .ok (.ineg, 1) := by decide +kernel
theorem zd91_6 : decode zxm91.2.1 6 = .ok (.goto 4, 3) := by decide +kernel
theorem zd91_9 : decode zxm91.2.1 9 = .ok (.iload_n 0, 1) := by decide +kernel
theorem zd91_10 : decode zxm91.2.1 10 = .ok (.ireturn, 1) := by decide +kernel
theorem zt_Math_abs {x0 : Int} {o : Int} (h : zf_Math_abs x0 = some o) : zv_Fn z_TB z_cl z_KX zy_Math_abs zxm91 (0, 0) [.inl x0] [] [] (some o) [] [] := zv_meth (K := (z_KF16, z_KC16, z_KL16, z_KT16, [], [], [], none)) (FT := z_FT) (MT := z_MT) (n := 1) zxp91 (z_ks16 _ (fun _ h => List.mem_cons_of_mem _ h) _ _ _ _ (fun j r h _ => by cases h)) (fun _ _ => zs_KX_p) zyw_Math_abs (fun va F G h => by obtain ⟨rfl, _⟩ := h; rfl) (fun va F G h => by obtain ⟨rfl, _⟩ := h; rfl) rfl fun good va F G hB hret hvret hP => by
  obtain ⟨rfl, rfl, rfl⟩ := hP
  unfold zf_Math_abs at h
  refine zv_ild hB zd91_0 rfl rfl ?_
  refine zv_zge hB zd91_1 rfl (fun hc1 => ?_) (fun hc1 => ?_)
  · rw [if_neg (Int.not_lt.mpr hc1)] at h
    refine zv_ild hB zd91_9 rfl rfl ?_
    have hw := Option.some.inj h
    subst hw
    exact hret _ _ _ _ _ zd91_10 (by trivial) ⟨rfl, rfl, rfl⟩
  · rw [if_pos hc1] at h
    refine zv_ild hB zd91_4 rfl rfl ?_
    refine zv_negw hB zd91_5 ?_
    refine zv_goto hB zd91_6 rfl ?_
    have hw := Option.some.inj h
    subst hw
    exact hret _ _ _ _ _ zd91_10 (by trivial) ⟨rfl, rfl, rfl⟩
/-! X_columnsBetween (II)I -/
-- names: 
-- fields: ; arrays: ; out: [('ret', None)]
abbrev zy_X_columnsBetween : zNL := (0, [], [], [], [])
theorem zyw_X_columnsBetween : zv_wf zy_X_columnsBetween = true := by decide +kernel
theorem zye_X_columnsBetween : zv_ek2 zy_X_columnsBetween = true := by decide +kernel
def zf_X_columnsBetween (x0 : Int) (x1 : Int) : Option (Int) := (zf_Math_abs (zi_w (x0 - x1))).bind fun r1 => ((zf_Math_min r1 (zi_w (24 - r1))).bind fun r2 => (some r2))
theorem zd90_0 : decode zxm90.2.1 0 = .ok (.iload_n 0, 1) := by decide +kernel
theorem zd90_1 : decode zxm90.2.1 1 = .ok (.iload_n 1, 1) := by decide +kernel
theorem zd90_2 : decode zxm90.2.1 2 = .ok (.isub, 1) := by decide +kernel
theorem zd90_3 : decode zxm90.2.1 3 = .ok (.invokestatic 426, 3) := by decide +kernel
theorem zd90_6 : decode zxm90.2.1 6 = .ok (.istore_n 2, 1) := by decide +kernel
theorem zd90_7 : decode zxm90.2.1 7 = .ok (.iload_n 2, 1) := by decide +kernel
theorem zd90_8 : decode zxm90.2.1 8 = .ok (.bipush 24, 2) := by decide +kernel
theorem zd90_10 : decode zxm90.2.1 10 = .ok (.iload_n 2, 1) := by decide +kernel
theorem zd90_11 : decode zxm90.2.1 11 = .ok (.isub, 1) := by decide +kernel
theorem zd90_12 : decode zxm90.2.1 12 = .ok (.invokestatic 429, 3) := by decide +kernel
theorem zd90_15 : decode zxm90.2.1 15 = .ok (.ireturn, 1) := by decide +kernel
theorem zt_X_columnsBetween {x0 : Int} {x1 : Int} {o : Int} (h : zf_X_columnsBetween x0 x1 = some o) : zv_Fn z_TB z_cl z_KX zy_X_columnsBetween zxm90 (1, 60) [.inl x0, .inl x1] [] [] (some o) [] [] := zv_meth (K := (z_KF0, z_KC0, z_KL0, z_KT0, [], [], [], none)) (FT := z_FT) (MT := z_MT) (n := 2) zxp90 (z_ks0 _ (fun _ h => List.mem_cons_of_mem _ h) _ _ _ _ (fun j r h _ => by cases h)) (fun _ _ => zs_KX_p) zyw_X_columnsBetween (fun va F G h => by obtain ⟨rfl, _⟩ := h; rfl) (fun va F G h => by obtain ⟨rfl, _⟩ := h; rfl) rfl fun good va F G hB hret hvret hP => by
  obtain ⟨rfl, rfl, rfl⟩ := hP
  unfold zf_X_columnsBetween at h
  refine zv_ild hB zd90_0 rfl rfl ?_
  refine zv_ild hB zd90_1 rfl rfl ?_
  refine zv_subw hB zd90_2 ?_
  obtain ⟨r1, hr1, h⟩ := zi_bind h
  refine zv_cs hB (zv_emq (va2 := [.inl (zi_w (x0 - x1))]) (F := []) (F' := []) (G := []) (G' := []) (ρ := []) (φ := []) (ψ := []) [] [] zyw_Math_abs zyw_X_columnsBetween zye_X_columnsBetween (by decide +kernel) (zt_Math_abs hr1) trivial trivial rfl rfl rfl rfl rfl rfl rfl) zd90_3 zxt91 rfl (by decide) (by decide) rfl ?_
  refine zv_ist hB zd90_6 rfl rfl rfl ?_
  refine zv_ild hB zd90_7 rfl rfl ?_
  refine zv_con hB zd90_8 rfl ?_
  refine zv_ild hB zd90_10 rfl rfl ?_
  refine zv_subw hB zd90_11 ?_
  obtain ⟨r2, hr2, h⟩ := zi_bind h
  refine zv_cs hB (zv_emq (va2 := [.inl r1, .inl (zi_w (24 - r1))]) (F := []) (F' := []) (G := []) (G' := []) (ρ := []) (φ := []) (ψ := []) [] [] zyw_Math_min zyw_X_columnsBetween zye_X_columnsBetween (by decide +kernel) (zt_Math_min hr2) trivial trivial rfl rfl rfl rfl rfl rfl rfl) zd90_12 zxt37 rfl (by decide) (by decide) rfl ?_
  have hw := Option.some.inj h
  subst hw
  exact hret _ _ _ _ _ zd90_15 (by trivial) ⟨rfl, rfl, rfl⟩
/-! Law_setStar (LStarTales$Sky;I)V -/
-- names: 0 Law('arg', 0), 1 Sky('arg', 1), 2 (0, 13)(0, 4, 12), 3 (0, 24)(1, 1, 3), 4 (0, 24)(1, 1, 2), 5 (0, 24)(1, 1, 1)
-- fields: f0 = 1.hour_; arrays: g0 = 2, g1 = 3, g2 = 4, g3 = 5; out: [('g', 0)]
abbrev zy_Law_setStar : zNL := (6, [(0, 4), (1, 1)], [(1, 1, 6, 0)], [(0, 4, 12, 2), (1, 1, 3, 3), (1, 1, 2, 4), (1, 1, 1, 5)], [(2, 0, 13, 0), (3, 0, 24, 1), (4, 0, 24, 2), (5, 0, 24, 3)])
theorem zyw_Law_setStar : zv_wf zy_Law_setStar = true := by decide +kernel
theorem zye_Law_setStar : zv_ek2 zy_Law_setStar = true := by decide +kernel
def zf_Law_setStar (x2 : Int) (f0 : Int) (g0 : (Int → Int)) (g1 : (Int → Int)) (g2 : (Int → Int)) (g3 : (Int → Int)) : Option ((Int → Int)) := cond (zi_ix x2 24) ((zf_Sky_standing x2 f0 g3).bind fun r2 => (some (zv_up (zv_up (zv_up (zv_up g0 2 x2) 3 (g1 x2)) 4 (g2 x2)) 5 r2))) none
theorem zd92_0 : decode zxm92.2.1 0 = .ok (.aload_n 0, 1) := by decide +kernel
theorem zd92_1 : decode zxm92.2.1 1 = .ok (.getfield 56, 3) := by decide +kernel
theorem zd92_4 : decode zxm92.2.1 4 = .ok (.iconst 2, 1) := by decide +kernel
theorem zd92_5 : decode zxm92.2.1 5 = .ok (.iload_n 2, 1) := by decide +kernel
theorem zd92_6 : decode zxm92.2.1 6 = .ok (.iastore, 1) := by decide +kernel
theorem zd92_7 : decode zxm92.2.1 7 = .ok (.aload_n 0, 1) := by decide +kernel
theorem zd92_8 : decode zxm92.2.1 8 = .ok (.getfield 56, 3) := by decide +kernel
theorem zd92_11 : decode zxm92.2.1 11 = .ok (.iconst 3, 1) := by decide +kernel
theorem zd92_12 : decode zxm92.2.1 12 = .ok (.aload_n 1, 1) := by decide +kernel
theorem zd92_13 : decode zxm92.2.1 13 = .ok (.getfield 83, 3) := by decide +kernel
theorem zd92_16 : decode zxm92.2.1 16 = .ok (.iload_n 2, 1) := by decide +kernel
theorem zd92_17 : decode zxm92.2.1 17 = .ok (.iaload, 1) := by decide +kernel
theorem zd92_18 : decode zxm92.2.1 18 = .ok (.iastore, 1) := by decide +kernel
theorem zd92_19 : decode zxm92.2.1 19 = .ok (.aload_n 0, 1) := by decide +kernel
theorem zd92_20 : decode zxm92.2.1 20 = .ok (.getfield 56, 3) := by decide +kernel
theorem zd92_23 : decode zxm92.2.1 23 = .ok (.iconst 4, 1) := by decide +kernel
theorem zd92_24 : decode zxm92.2.1 24 = .ok (.aload_n 1, 1) := by decide +kernel
theorem zd92_25 : decode zxm92.2.1 25 = .ok (.getfield 86, 3) := by decide +kernel
theorem zd92_28 : decode zxm92.2.1 28 = .ok (.iload_n 2, 1) := by decide +kernel
theorem zd92_29 : decode zxm92.2.1 29 = .ok (.iaload, 1) := by decide +kernel
theorem zd92_30 : decode zxm92.2.1 30 = .ok (.iastore, 1) := by decide +kernel
theorem zd92_31 : decode zxm92.2.1 31 = .ok (.aload_n 0, 1) := by decide +kernel
theorem zd92_32 : decode zxm92.2.1 32 = .ok (.getfield 56, 3) := by decide +kernel
theorem zd92_35 : decode zxm92.2.1 35 = .ok (.iconst 5, 1) := by decide +kernel
theorem zd92_36 : decode zxm92.2.1 36 = .ok (.aload_n 1, 1) := by decide +kernel
theorem zd92_37 : decode zxm92.2.1 37 = .ok (.iload_n 2, 1) := by decide +kernel
theorem zd92_38 : decode zxm92.2.1 38 = .ok (.invokevirtual 89, 3) := by decide +kernel
theorem zd92_41 : decode zxm92.2.1 41 = .ok (.iastore, 1) := by decide +kernel
theorem zd92_42 : decode zxm92.2.1 42 = .ok (.return_, 1) := by decide +kernel
theorem zt_Law_setStar {x2 : Int} {f0 : Int} {g0 : (Int → Int)} {g1 : (Int → Int)} {g2 : (Int → Int)} {g3 : (Int → Int)} {o : (Int → Int)} (h : zf_Law_setStar x2 f0 g0 g1 g2 g3 = some o) : zv_Fn z_TB z_cl z_KX zy_Law_setStar zxm92 (1, 60) [.inr 0, .inr 1, .inl x2] [.inl f0] [g0, g1, g2, g3] none [.inl f0] [o, g1, g2, g3] := zv_meth (K := (z_KF2, z_KC2, z_KL2, z_KT2, [], [], [], none)) (FT := z_FT) (MT := z_MT) (n := 3) zxp92 (z_ks2 _ (fun _ h => List.mem_cons_of_mem _ h) _ _ _ _ (fun j r h _ => by cases h)) (fun _ _ => zs_KX_p) zyw_Law_setStar (fun va F G h => by obtain ⟨rfl, _⟩ := h; rfl) (fun va F G h => by obtain ⟨rfl, _⟩ := h; rfl) rfl fun good va F G hB hret hvret hP => by
  obtain ⟨rfl, rfl, rfl⟩ := hP
  unfold zf_Law_setStar at h
  refine zv_ald hB zd92_0 rfl rfl rfl ?_
  refine zv_getr hB zd92_1 rfl ?_
  refine zv_con hB zd92_4 rfl ?_
  refine zv_ild hB zd92_5 rfl rfl ?_
  refine zv_iast hB zd92_6 rfl rfl (by decide) (by decide) ?_
  refine zv_ald hB zd92_7 rfl rfl rfl ?_
  refine zv_getr hB zd92_8 rfl ?_
  refine zv_con hB zd92_11 rfl ?_
  refine zv_ald hB zd92_12 rfl rfl rfl ?_
  refine zv_getr hB zd92_13 rfl ?_
  refine zv_ild hB zd92_16 rfl rfl ?_
  obtain ⟨c1, h⟩ := zi_if h
  refine zv_iald hB zd92_17 rfl rfl (zi_ix_ok c1).1 (zi_ix_ok c1).2 (fun _ _ => ?_)
  refine zv_iast hB zd92_18 rfl rfl (by decide) (by decide) ?_
  refine zv_ald hB zd92_19 rfl rfl rfl ?_
  refine zv_getr hB zd92_20 rfl ?_
  refine zv_con hB zd92_23 rfl ?_
  refine zv_ald hB zd92_24 rfl rfl rfl ?_
  refine zv_getr hB zd92_25 rfl ?_
  refine zv_ild hB zd92_28 rfl rfl ?_
  refine zv_iald hB zd92_29 rfl rfl (zi_ix_ok c1).1 (zi_ix_ok c1).2 (fun _ _ => ?_)
  refine zv_iast hB zd92_30 rfl rfl (by decide) (by decide) ?_
  refine zv_ald hB zd92_31 rfl rfl rfl ?_
  refine zv_getr hB zd92_32 rfl ?_
  refine zv_con hB zd92_35 rfl ?_
  refine zv_ald hB zd92_36 rfl rfl rfl ?_
  refine zv_ild hB zd92_37 rfl rfl ?_
  obtain ⟨r2, hr2, h⟩ := zi_bind h
  refine zv_cv hB (zv_emq (va2 := [.inr 1, .inl x2]) (F := [.inl f0]) (F' := [.inl f0]) (G := [(zv_up (zv_up (zv_up g0 2 x2) 3 (g1 x2)) 4 (g2 x2)), g1, g2, g3]) (G' := [(zv_up (zv_up (zv_up g0 2 x2) 3 (g1 x2)) 4 (g2 x2)), g1, g2, g3]) (ρ := [1, 5]) (φ := [0]) (ψ := [3]) [some 0] [none, none, none, some 0] zyw_Sky_standing zyw_Law_setStar zye_Law_setStar (by decide +kernel) (zt_Sky_standing hr2) ⟨⟨_, rfl, fun _ => rfl⟩, trivial⟩ ⟨rfl, trivial⟩ rfl rfl rfl rfl rfl rfl rfl) zd92_38 zxt82 rfl (by decide) (by decide) rfl ?_
  refine zv_iast hB zd92_41 rfl rfl (by decide) (by decide) ?_
  have hw := Option.some.inj h
  subst hw
  exact hvret _ _ _ _ zd92_42 trivial ⟨rfl, rfl, rfl⟩
/-! Math_max (II)I -/
-- names: 
-- fields: ; arrays: ; out: [('ret', None)]
abbrev zy_Math_max : zNL := (0, [], [], [], [])
theorem zyw_Math_max : zv_wf zy_Math_max = true := by decide +kernel
theorem zye_Math_max : zv_ek2 zy_Math_max = true := by decide +kernel
def zf_Math_max (x0 : Int) (x1 : Int) : Option (Int) := if x0 < x1 then (some x1) else (some x0)
theorem zt_Math_max {x0 : Int} {x1 : Int} {o : Int} (h : zf_Math_max x0 x1 = some o) : zv_Fn z_TB z_cl z_KX zy_Math_max zxm55 (0, 0) [.inl x0, .inl x1] [] [] (some o) [] [] := zv_meth (K := (z_KF16, z_KC16, z_KL16, z_KT16, [], [], [], none)) (FT := z_FT) (MT := z_MT) (n := 2) zxp55 (z_ks16 _ (fun _ h => List.mem_cons_of_mem _ h) _ _ _ _ (fun j r h _ => by cases h)) (fun _ _ => zs_KX_p) zyw_Math_max (fun va F G h => by obtain ⟨rfl, _⟩ := h; rfl) (fun va F G h => by obtain ⟨rfl, _⟩ := h; rfl) rfl fun good va F G hB hret hvret hP => by
  obtain ⟨rfl, rfl, rfl⟩ := hP
  unfold zf_Math_max at h
  refine zv_ild hB zd55_0 rfl rfl ?_
  refine zv_ild hB zd55_1 rfl rfl ?_
  refine zv_clt hB zd55_2 rfl (fun hc1 => ?_) (fun hc1 => ?_)
  · rw [if_pos hc1] at h
    refine zv_ild hB zd55_9 rfl rfl ?_
    have hw := Option.some.inj h
    subst hw
    exact hret _ _ _ _ _ zd55_10 (by trivial) ⟨rfl, rfl, rfl⟩
  · rw [if_neg (Int.not_lt.mpr hc1)] at h
    refine zv_ild hB zd55_5 rfl rfl ?_
    refine zv_goto hB zd55_6 rfl ?_
    have hw := Option.some.inj h
    subst hw
    exact hret _ _ _ _ _ zd55_10 (by trivial) ⟨rfl, rfl, rfl⟩
