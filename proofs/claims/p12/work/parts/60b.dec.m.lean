/-! 60b.dec, 60c.dec, 60d.dec -/
section
/-! Methods as functions, and that they do what these do. -/
/-! X_columnOf (I)I -/
-- names: 
-- fields: ; arrays: ; out: [('ret', None)]
abbrev zy_X_columnOf : zNL := (0, [], [], [], [])
theorem zyw_X_columnOf : zv_wf zy_X_columnOf = true := by decide +kernel
theorem zye_X_columnOf : zv_ek2 zy_X_columnOf = true := by decide +kernel
def zf_X_columnOf (x0 : Int) : Option (Int) := some (zi_rem x0 24)
theorem zd31_0 : decode zxm31.2.1 0 = .ok (.iload_n 0, 1) := by decide +kernel
theorem zd31_1 : decode zxm31.2.1 1 = .ok (.bipush 24, 2) := by decide +kernel
theorem zd31_3 : decode zxm31.2.1 3 = .ok (.irem, 1) := by decide +kernel
theorem zd31_4 : decode zxm31.2.1 4 = .ok (.ireturn, 1) := by decide +kernel
theorem zt_X_columnOf {x0 : Int} {o : Int} (h : zf_X_columnOf x0 = some o) : zv_Fn z_TB z_cl z_KX zy_X_columnOf zxm31 (0, 0) [.inl x0] [] [] (some o) [] [] := zv_meth (K := (z_KF0, z_KC0, z_KL0, z_KT0, [], [], [], none)) (FT := z_FT) (MT := z_MT) (n := 1) zxp31 (z_ks0 _ (fun _ h => List.mem_cons_of_mem _ h) _ _ _ _ (fun j r h _ => by cases h)) (fun _ _ => zs_KX_p) zyw_X_columnOf (fun va F G h => by obtain ⟨rfl, _⟩ := h; rfl) (fun va F G h => by obtain ⟨rfl, _⟩ := h; rfl) rfl fun good va F G hB hret hvret hP => by
  obtain ⟨rfl, rfl, rfl⟩ := hP
  unfold zf_X_columnOf at h
  refine zv_ild hB zd31_0 rfl rfl ?_
  refine zv_con hB zd31_1 rfl ?_
  refine zv_remw hB zd31_3 (by decide) ?_
  have hw := Option.some.inj h
  subst hw
  exact hret _ _ _ _ _ zd31_4 (by trivial) ⟨rfl, rfl, rfl⟩
/-! Sea_isLand (I)Z -/
-- names: 0 Sea('arg', 0), 1 (0, 12)(0, 2, 0)
-- fields: ; arrays: g0 = 1; out: [('ret', None)]
abbrev zy_Sea_isLand : zNL := (2, [(0, 2)], [], [(0, 2, 0, 1)], [(1, 0, 12, 0)])
theorem zyw_Sea_isLand : zv_wf zy_Sea_isLand = true := by decide +kernel
theorem zye_Sea_isLand : zv_ek2 zy_Sea_isLand = true := by decide +kernel
def zf_Sea_isLand (x1 : Int) (g0 : (Int → Int)) : Option (Int) := (zf_X_rowOf x1).bind fun r1 => (cond (zi_ix r1 12) ((zf_X_columnOf x1).bind fun r3 => (if (zi_and (zi_shr (g0 r1) r3) 1) = 0 then (some 0) else (some 1))) none)
theorem zd29_0 : decode zxm29.2.1 0 = .ok (.aload_n 0, 1) := by decide +kernel
theorem zd29_1 : decode zxm29.2.1 1 = .ok (.getfield 9, 3) := by decide +kernel
theorem zd29_4 : decode zxm29.2.1 4 = .ok (.iload_n 1, 1) := by decide +kernel
theorem zd29_5 : decode zxm29.2.1 5 = .ok (.invokestatic 22, 3) := by decide +kernel
theorem zd29_8 : decode zxm29.2.1 8 = .ok (.iaload, 1) := by decide +kernel
theorem zd29_9 : decode zxm29.2.1 9 = .ok (.iload_n 1, 1) := by decide +kernel
theorem zd29_10 : decode zxm29.2.1 10 = .ok (.invokestatic 26, 3) := by decide +kernel
theorem zd29_13 : decode zxm29.2.1 13 = .ok (.ishr, 1) := by decide +kernel
theorem zd29_14 : decode zxm29.2.1 14 = .ok (.iconst 1, 1) := by decide +kernel
theorem zd29_15 : decode zxm29.2.1 15 = .ok (.iand, 1) := by decide +kernel
theorem zd29_16 : decode zxm29.2.1 16 = .ok (.ifCond .eq 7, 3) := by decide +kernel
theorem zd29_19 : decode zxm29.2.1 19 = .ok (.iconst 1, 1) := by decide +kernel
theorem zd29_20 : decode zxm29.2.1 20 = .ok (.goto 4, 3) := by decide +kernel
theorem zd29_23 : decode zxm29.2.1 23 = .ok (.iconst 0, 1) := by decide +kernel
theorem zd29_24 : decode zxm29.2.1 24 = .ok (.ireturn, 1) := by decide +kernel
theorem zt_Sea_isLand {x1 : Int} {g0 : (Int → Int)} {o : Int} (h : zf_Sea_isLand x1 g0 = some o) : zv_Fn z_TB z_cl z_KX zy_Sea_isLand zxm29 (1, 60) [.inr 0, .inl x1] [] [g0] (some o) [] [g0] := zv_meth (K := (z_KF7, z_KC7, z_KL7, z_KT7, [], [], [], none)) (FT := z_FT) (MT := z_MT) (n := 2) zxp29 (z_ks7 _ (fun _ h => List.mem_cons_of_mem _ h) _ _ _ _ (fun j r h _ => by cases h)) (fun _ _ => zs_KX_p) zyw_Sea_isLand (fun va F G h => by obtain ⟨rfl, _⟩ := h; rfl) (fun va F G h => by obtain ⟨rfl, _⟩ := h; rfl) rfl fun good va F G hB hret hvret hP => by
  obtain ⟨rfl, rfl, rfl⟩ := hP
  unfold zf_Sea_isLand at h
  refine zv_ald hB zd29_0 rfl rfl rfl ?_
  refine zv_getr hB zd29_1 rfl ?_
  refine zv_ild hB zd29_4 rfl rfl ?_
  obtain ⟨r1, hr1, h⟩ := zi_bind h
  refine zv_cs hB (zv_emq (va2 := [.inl x1]) (F := []) (F' := []) (G := [g0]) (G' := [g0]) (ρ := []) (φ := []) (ψ := []) [] [none] zyw_X_rowOf zyw_Sea_isLand zye_Sea_isLand (by decide +kernel) (zt_X_rowOf hr1) trivial trivial rfl rfl rfl rfl rfl rfl rfl) zd29_5 zxt30 rfl (by decide) (by decide) rfl ?_
  obtain ⟨c2, h⟩ := zi_if h
  refine zv_iald hB zd29_8 rfl rfl (zi_ix_ok c2).1 (zi_ix_ok c2).2 (fun _ _ => ?_)
  refine zv_ild hB zd29_9 rfl rfl ?_
  obtain ⟨r3, hr3, h⟩ := zi_bind h
  refine zv_cs hB (zv_emq (va2 := [.inl x1]) (F := []) (F' := []) (G := [g0]) (G' := [g0]) (ρ := []) (φ := []) (ψ := []) [] [none] zyw_X_columnOf zyw_Sea_isLand zye_Sea_isLand (by decide +kernel) (zt_X_columnOf hr3) trivial trivial rfl rfl rfl rfl rfl rfl rfl) zd29_10 zxt31 rfl (by decide) (by decide) rfl ?_
  refine zv_shrw hB zd29_13 ?_
  refine zv_con hB zd29_14 rfl ?_
  refine zv_andw hB zd29_15 ?_
  refine zv_zeq hB zd29_16 rfl (fun hc4 => ?_) (fun hc4 => ?_)
  · rw [if_pos hc4] at h
    refine zv_con hB zd29_23 rfl ?_
    have hw := Option.some.inj h
    subst hw
    exact hret _ _ _ _ _ zd29_24 (by constructor <;> decide) ⟨rfl, rfl, rfl⟩
  · rw [if_neg hc4] at h
    refine zv_con hB zd29_19 rfl ?_
    refine zv_goto hB zd29_20 rfl ?_
    have hw := Option.some.inj h
    subst hw
    exact hret _ _ _ _ _ zd29_24 (by constructor <;> decide) ⟨rfl, rfl, rfl⟩
/-! X_ship (III)Z -/
-- names: 0 StarTales('arg', 0), 1 Sea(0, 0, 3), 2 (0, 12)(1, 2, 0), 3 (0, 6)(1, 2, 2)
-- fields: f0 = 1.shipsTold_; arrays: g0 = 2, g1 = 3; out: [('ret', None), ('f', 0), ('g', 1)]
abbrev zy_X_ship : zNL := (4, [(0, 0), (1, 2)], [(1, 2, 1, 0)], [(0, 0, 3, 1), (1, 2, 0, 2), (1, 2, 2, 3)], [(2, 0, 12, 0), (3, 0, 6, 1)])
theorem zyw_X_ship : zv_wf zy_X_ship = true := by decide +kernel
theorem zye_X_ship : zv_ek2 zy_X_ship = true := by decide +kernel
def zf_X_ship (x1 : Int) (x2 : Int) (x3 : Int) (f0 : Int) (g0 : (Int → Int)) (g1 : (Int → Int)) : Option (Int × Int × (Int → Int)) := (zf_X_isWithin x1 0 5).bind fun r1 => (if r1 = 0 then (some (0, f0, g1)) else ((zf_X_isPlace x2 x3).bind fun r3 => (if r3 = 0 then (some (0, f0, g1)) else ((zf_X_placeOf x2 x3).bind fun r5 => ((zf_Sea_isLand r5 g0).bind fun r6 => (if r6 = 0 then ((zf_X_placeOf x2 x3).bind fun r8 => (cond (zi_ix x1 6) (some (1, (zi_or f0 (zi_shl 1 x1)), (zv_up g1 x1 r8))) none)) else (some (0, f0, g1))))))))
theorem zd28_0 : decode zxm28.2.1 0 = .ok (.iload_n 1, 1) := by decide +kernel
theorem zd28_1 : decode zxm28.2.1 1 = .ok (.iconst 0, 1) := by decide +kernel
theorem zd28_2 : decode zxm28.2.1 2 = .ok (.iconst 5, 1) := by decide +kernel
theorem zd28_3 : decode zxm28.2.1 3 = .ok (.invokestatic 126, 3) := by decide +kernel
theorem zd28_6 : decode zxm28.2.1 6 = .ok (.ifCond .eq 26, 3) := by decide +kernel
theorem zd28_9 : decode zxm28.2.1 9 = .ok (.iload_n 2, 1) := by decide +kernel
theorem zd28_10 : decode zxm28.2.1 10 = .ok (.iload_n 3, 1) := by decide +kernel
theorem zd28_11 : decode zxm28.2.1 11 = .ok (.invokestatic 130, 3) := by decide +kernel
theorem zd28_14 : decode zxm28.2.1 14 = .ok (.ifCond .eq 18, 3) := by decide +kernel
theorem zd28_17 : decode zxm28.2.1 17 = .ok (.aload_n 0, 1) := by decide +kernel
theorem zd28_18 : decode zxm28.2.1 18 = .ok (.getfield 25, 3) := by decide +kernel
theorem zd28_21 : decode zxm28.2.1 21 = .ok (.iload_n 2, 1) := by decide +kernel
theorem zd28_22 : decode zxm28.2.1 22 = .ok (.iload_n 3, 1) := by decide +kernel
theorem zd28_23 : decode zxm28.2.1 23 = .ok (.invokestatic 170, 3) := by decide +kernel
theorem zd28_26 : decode zxm28.2.1 26 = .ok (.invokevirtual 181, 3) := by decide +kernel
theorem zd28_29 : decode zxm28.2.1 29 = .ok (.ifCond .eq 5, 3) := by decide +kernel
theorem zd28_32 : decode zxm28.2.1 32 = .ok (.iconst 0, 1) := by decide +kernel
theorem zd28_33 : decode zxm28.2.1 33 = .ok (.ireturn, 1) := by decide +kernel
theorem zd28_34 : decode zxm28.2.1 34 = .ok (.aload_n 0, 1) := by decide +kernel
theorem zd28_35 : decode zxm28.2.1 35 = .ok (.getfield 25, 3) := by decide +kernel
theorem zd28_38 : decode zxm28.2.1 38 = .ok (.dup, 1) := by decide +kernel
theorem zd28_39 : decode zxm28.2.1 39 = .ok (.getfield 184, 3) := by decide +kernel
theorem zd28_42 : decode zxm28.2.1 42 = .ok (.iconst 1, 1) := by decide +kernel
theorem zd28_43 : decode zxm28.2.1 43 = .ok (.iload_n 1, 1) := by decide +kernel
theorem zd28_44 : decode zxm28.2.1 44 = .ok (.ishl, 1) := by decide +kernel
theorem zd28_45 : decode zxm28.2.1 45 = .ok (.ior, 1) := by decide +kernel
theorem zd28_46 : decode zxm28.2.1 46 = .ok (.putfield 184, 3) := by decide +kernel
theorem zd28_49 : decode zxm28.2.1 49 = .ok (.aload_n 0, 1) := by decide +kernel
theorem zd28_50 : decode zxm28.2.1 50 = .ok (.getfield 25, 3) := by decide +kernel
theorem zd28_53 : decode zxm28.2.1 53 = .ok (.getfield 187, 3) := by decide +kernel
theorem zd28_56 : decode zxm28.2.1 56 = .ok (.iload_n 1, 1) := by decide +kernel
theorem zd28_57 : decode zxm28.2.1 57 = .ok (.iload_n 2, 1) := by decide +kernel
theorem zd28_58 : decode zxm28.2.1 58 = .ok (.iload_n 3, 1) := by decide +kernel
theorem zd28_59 : decode zxm28.2.1 59 = .ok (.invokestatic 170, 3) := by decide +kernel
theorem zd28_62 : decode zxm28.2.1 62 = .ok (.iastore, 1) := by decide +kernel
theorem zd28_63 : decode zxm28.2.1 63 = .ok (.iconst 1, 1) := by decide +kernel
theorem zd28_64 : decode zxm28.2.1 64 = .ok (.ireturn, 1) := by decide +kernel
theorem zt_X_ship {x1 : Int} {x2 : Int} {x3 : Int} {f0 : Int} {g0 : (Int → Int)} {g1 : (Int → Int)} {o : Int × Int × (Int → Int)} (h : zf_X_ship x1 x2 x3 f0 g0 g1 = some o) : zv_Fn z_TB z_cl z_KX zy_X_ship zxm28 (2, 120) [.inr 0, .inl x1, .inl x2, .inl x3] [.inl f0] [g0, g1] (some o.1) [.inl o.2.1] [g0, o.2.2] := zv_meth (K := (z_KF0, z_KC0, z_KL0, z_KT0, [], [], [], none)) (FT := z_FT) (MT := z_MT) (n := 4) zxp28 (z_ks0 _ (fun _ h => List.mem_cons_of_mem _ h) _ _ _ _ (fun j r h _ => by cases h)) (fun _ _ => zs_KX_p) zyw_X_ship (fun va F G h => by obtain ⟨rfl, _⟩ := h; rfl) (fun va F G h => by obtain ⟨rfl, _⟩ := h; rfl) rfl fun good va F G hB hret hvret hP => by
  obtain ⟨rfl, rfl, rfl⟩ := hP
  unfold zf_X_ship at h
  refine zv_ild hB zd28_0 rfl rfl ?_
  refine zv_con hB zd28_1 rfl ?_
  refine zv_con hB zd28_2 rfl ?_
  obtain ⟨r1, hr1, h⟩ := zi_bind h
  refine zv_cs hB (zv_emq (va2 := [.inl x1, .inl 0, .inl 5]) (F := [.inl f0]) (F' := [.inl f0]) (G := [g0, g1]) (G' := [g0, g1]) (ρ := []) (φ := []) (ψ := []) [none] [none, none] zyw_X_isWithin zyw_X_ship zye_X_ship (by decide +kernel) (zt_X_isWithin hr1) trivial trivial rfl rfl rfl rfl rfl rfl rfl) zd28_3 zxt15 rfl (by decide) (by decide) rfl ?_
  refine zv_zeq hB zd28_6 rfl (fun hc2 => ?_) (fun hc2 => ?_)
  · rw [if_pos hc2] at h
    refine zv_con hB zd28_32 rfl ?_
    have hw := Option.some.inj h
    subst hw
    exact hret _ _ _ _ _ zd28_33 (by constructor <;> decide) ⟨rfl, rfl, rfl⟩
  · rw [if_neg hc2] at h
    refine zv_ild hB zd28_9 rfl rfl ?_
    refine zv_ild hB zd28_10 rfl rfl ?_
    obtain ⟨r3, hr3, h⟩ := zi_bind h
    refine zv_cs hB (zv_emq (va2 := [.inl x2, .inl x3]) (F := [.inl f0]) (F' := [.inl f0]) (G := [g0, g1]) (G' := [g0, g1]) (ρ := []) (φ := []) (ψ := []) [none] [none, none] zyw_X_isPlace zyw_X_ship zye_X_ship (by decide +kernel) (zt_X_isPlace hr3) trivial trivial rfl rfl rfl rfl rfl rfl rfl) zd28_11 zxt16 rfl (by decide) (by decide) rfl ?_
    refine zv_zeq hB zd28_14 rfl (fun hc4 => ?_) (fun hc4 => ?_)
    · rw [if_pos hc4] at h
      refine zv_con hB zd28_32 rfl ?_
      have hw := Option.some.inj h
      subst hw
      exact hret _ _ _ _ _ zd28_33 (by constructor <;> decide) ⟨rfl, rfl, rfl⟩
    · rw [if_neg hc4] at h
      refine zv_ald hB zd28_17 rfl rfl rfl ?_
      refine zv_getr hB zd28_18 rfl ?_
      refine zv_ild hB zd28_21 rfl rfl ?_
      refine zv_ild hB zd28_22 rfl rfl ?_
      obtain ⟨r5, hr5, h⟩ := zi_bind h
      refine zv_cs hB (zv_emq (va2 := [.inl x2, .inl x3]) (F := [.inl f0]) (F' := [.inl f0]) (G := [g0, g1]) (G' := [g0, g1]) (ρ := []) (φ := []) (ψ := []) [none] [none, none] zyw_X_placeOf zyw_X_ship zye_X_ship (by decide +kernel) (zt_X_placeOf hr5) trivial trivial rfl rfl rfl rfl rfl rfl rfl) zd28_23 zxt24 rfl (by decide) (by decide) rfl ?_
      obtain ⟨r6, hr6, h⟩ := zi_bind h
      refine zv_cv hB (zv_emq (va2 := [.inr 1, .inl r5]) (F := [.inl f0]) (F' := [.inl f0]) (G := [g0, g1]) (G' := [g0, g1]) (ρ := [1, 2]) (φ := []) (ψ := [0]) [none] [some 0, none] zyw_Sea_isLand zyw_X_ship zye_X_ship (by decide +kernel) (zt_Sea_isLand hr6) trivial ⟨rfl, trivial⟩ rfl rfl rfl rfl rfl rfl rfl) zd28_26 zxt29 rfl (by decide) (by decide) rfl ?_
      refine zv_zeq hB zd28_29 rfl (fun hc7 => ?_) (fun hc7 => ?_)
      · rw [if_pos hc7] at h
        refine zv_ald hB zd28_34 rfl rfl rfl ?_
        refine zv_getr hB zd28_35 rfl ?_
        refine zv_dup hB zd28_38 rfl ?_
        refine zv_getf hB zd28_39 rfl rfl (fun _ _ => ?_)
        refine zv_con hB zd28_42 rfl ?_
        refine zv_ild hB zd28_43 rfl rfl ?_
        refine zv_shlw hB zd28_44 ?_
        refine zv_orw hB zd28_45 ?_
        refine zv_putf hB zd28_46 rfl rfl (fun h => by cases h) rfl ?_
        refine zv_ald hB zd28_49 rfl rfl rfl ?_
        refine zv_getr hB zd28_50 rfl ?_
        refine zv_getr hB zd28_53 rfl ?_
        refine zv_ild hB zd28_56 rfl rfl ?_
        refine zv_ild hB zd28_57 rfl rfl ?_
        refine zv_ild hB zd28_58 rfl rfl ?_
        obtain ⟨r8, hr8, h⟩ := zi_bind h
        refine zv_cs hB (zv_emq (va2 := [.inl x2, .inl x3]) (F := [.inl (zi_or f0 (zi_shl 1 x1))]) (F' := [.inl (zi_or f0 (zi_shl 1 x1))]) (G := [g0, g1]) (G' := [g0, g1]) (ρ := []) (φ := []) (ψ := []) [none] [none, none] zyw_X_placeOf zyw_X_ship zye_X_ship (by decide +kernel) (zt_X_placeOf hr8) trivial trivial rfl rfl rfl rfl rfl rfl rfl) zd28_59 zxt24 rfl (by decide) (by decide) rfl ?_
        obtain ⟨c9, h⟩ := zi_if h
        refine zv_iast hB zd28_62 rfl rfl (zi_ix_ok c9).1 (zi_ix_ok c9).2 ?_
        refine zv_con hB zd28_63 rfl ?_
        have hw := Option.some.inj h
        subst hw
        exact hret _ _ _ _ _ zd28_64 (by constructor <;> decide) ⟨rfl, rfl, rfl⟩
      · rw [if_neg hc7] at h
        refine zv_con hB zd28_32 rfl ?_
        have hw := Option.some.inj h
        subst hw
        exact hret _ _ _ _ _ zd28_33 (by constructor <;> decide) ⟨rfl, rfl, rfl⟩
/-! Tape_addNumber (I)V -/
-- names: 0 Tape('arg', 0), 1 (0, 220)(0, 3, 0)
-- fields: f0 = 0.size_; arrays: g0 = 1; out: [('f', 0), ('g', 0)]
abbrev zy_Tape_addNumber : zNL := (2, [(0, 3)], [(0, 3, 1, 0)], [(0, 3, 0, 1)], [(1, 0, 220, 0)])
theorem zyw_Tape_addNumber : zv_wf zy_Tape_addNumber = true := by decide +kernel
theorem zye_Tape_addNumber : zv_ek2 zy_Tape_addNumber = true := by decide +kernel
def zf_Tape_addNumber_l0_b (x1 : Int) (rec : Int → Int → (Int → Int) → Option (Int × (Int → Int))) (x2 : Int) (f0 : Int) (g0 : (Int → Int)) : Option (Int × (Int → Int)) := if x2 < 0 then (some (f0, g0)) else (if f0 < 220 then (cond (zi_ix f0 220) (rec (zi_w (x2 + (-8))) (zi_w (f0 + 1)) (zv_up g0 f0 (zi_and (zi_ush x1 x2) 255))) none) else (some (f0, g0)))
def zf_Tape_addNumber_l0 (x1 : Int) : Nat → Int → Int → (Int → Int) → Option (Int × (Int → Int))
  | 0, _, _, _ => none
  | n + 1, x2, f0, g0 => zf_Tape_addNumber_l0_b x1 (zf_Tape_addNumber_l0 x1 n) x2 f0 g0
def zf_Tape_addNumber (x1 : Int) (f0 : Int) (g0 : (Int → Int)) : Option (Int × (Int → Int)) := (zf_Tape_addNumber_l0 x1 zi_fu 24 f0 g0).bind fun q4 => (some (q4.1, q4.2))
theorem zd33_0 : decode zxm33.2.1 0 = .ok (.bipush 24, 2) := by decide +kernel
theorem zd33_2 : decode zxm33.2.1 2 = .ok (.istore_n 2, 1) := by decide +kernel
theorem zd33_3 : decode zxm33.2.1 3 = .ok (.iload_n 2, 1) := by decide +kernel
theorem zd33_4 : decode zxm33.2.1 4 = .ok (.ifCond .lt 45, 3) := by decide +kernel
theorem zd33_7 : decode zxm33.2.1 7 = .ok (.aload_n 0, 1) := by decide +kernel
theorem zd33_8 : decode zxm33.2.1 8 = .ok (.getfield 13, 3) := by decide +kernel
theorem zd33_11 : decode zxm33.2.1 11 = .ok (.sipush 220, 3) := by decide +kernel
theorem zd33_14 : decode zxm33.2.1 14 = .ok (.if_icmp .ge 35, 3) := by decide +kernel
theorem zd33_17 : decode zxm33.2.1 17 = .ok (.aload_n 0, 1) := by decide +kernel
theorem zd33_18 : decode zxm33.2.1 18 = .ok (.getfield 9, 3) := by decide +kernel
theorem zd33_21 : decode zxm33.2.1 21 = .ok (.aload_n 0, 1) := by decide +kernel
theorem zd33_22 : decode zxm33.2.1 22 = .ok (.getfield 13, 3) := by decide +kernel
theorem zd33_25 : decode zxm33.2.1 25 = .ok (.iload_n 1, 1) := by decide +kernel
theorem zd33_26 : decode zxm33.2.1 26 = .ok (.iload_n 2, 1) := by decide +kernel
theorem zd33_27 : decode zxm33.2.1 27 = .ok (.iushr, 1) := by decide +kernel
theorem zd33_28 : decode zxm33.2.1 28 = .ok (.sipush 255, 3) := by decide +kernel
theorem zd33_31 : decode zxm33.2.1 31 = .ok (.iand, 1) := by decide +kernel
theorem zd33_32 : decode zxm33.2.1 32 = .ok (.iastore, 1) := by decide +kernel
theorem zd33_33 : decode zxm33.2.1 33 = .ok (.aload_n 0, 1) := by decide +kernel
theorem zd33_34 : decode zxm33.2.1 34 = .ok (.dup, 1) := by decide +kernel
theorem zd33_35 : decode zxm33.2.1 35 = .ok (.getfield 13, 3) := by decide +kernel
theorem zd33_38 : decode zxm33.2.1 38 = .ok (.iconst 1, 1) := by decide +kernel
theorem zd33_39 : decode zxm33.2.1 39 = .ok (.iadd, 1) := by decide +kernel
theorem zd33_40 : decode zxm33.2.1 40 = .ok (.putfield 13, 3) := by decide +kernel
theorem zd33_43 : decode zxm33.2.1 43 = .ok (.iinc 2 (-8), 3) := by decide +kernel
theorem zd33_46 : decode zxm33.2.1 46 = .ok (.goto (-43), 3) := by decide +kernel
theorem zd33_49 : decode zxm33.2.1 49 = .ok (.return_, 1) := by decide +kernel
theorem zt_Tape_addNumber {x1 : Int} {f0 : Int} {g0 : (Int → Int)} {o : Int × (Int → Int)} (h : zf_Tape_addNumber x1 f0 g0 = some o) : zv_Fn z_TB z_cl z_KX zy_Tape_addNumber zxm33 (0, 0) [.inr 0, .inl x1] [.inl f0] [g0] none [.inl o.1] [o.2] := zv_meth (K := (z_KF10, z_KC10, z_KL10, z_KT10, [], [], [], none)) (FT := z_FT) (MT := z_MT) (n := 2) zxp33 (z_ks10 _ (fun _ h => List.mem_cons_of_mem _ h) _ _ _ _ (fun j r h _ => by cases h)) (fun _ _ => zs_KX_p) zyw_Tape_addNumber (fun va F G h => by obtain ⟨rfl, _⟩ := h; rfl) (fun va F G h => by obtain ⟨rfl, _⟩ := h; rfl) rfl fun good va F G hB hret hvret hP => by
  obtain ⟨rfl, rfl, rfl⟩ := hP
  have l0 : ∀ (n : Nat) (x1 : Int) (x2 : Int) (f0 : Int) (g0 : (Int → Int)) (q : Int × (Int → Int)), zf_Tape_addNumber_l0 x1 n x2 f0 g0 = some q → (good 49 [.inr 1000, .inr 1000, .inr 1000] [] [.inl q.1] [q.2]) → good 3 [.inr 0, .inl x1, .inl x2] [] [.inl f0] [g0] := by
    intro n
    induction n with
    | zero => intro x1 x2 f0 g0 q h; exact absurd (show none = some q from h) (fun h => by cases h)
    | succ n ih =>
      intro x1 x2 f0 g0 q h hK
      replace h : zf_Tape_addNumber_l0_b x1 (zf_Tape_addNumber_l0 x1 n) x2 f0 g0 = some q := h
      unfold zf_Tape_addNumber_l0_b at h
      refine zv_ild hB zd33_3 rfl rfl ?_
      refine zv_zlt hB zd33_4 rfl (fun hc1 => ?_) (fun hc1 => ?_)
      · rw [if_pos hc1] at h
        have hq := Option.some.inj h
        subst hq
        refine zv_wk hB (L' := [.inr 1000, .inr 1000, .inr 1000]) (F' := [.inl f0]) ⟨fun (h : zv_is (.inr 1000)) => (Nat.lt_irrefl 1000 h).elim, fun (h : zv_is (.inr 1000)) => (Nat.lt_irrefl 1000 h).elim, fun (h : zv_is (.inr 1000)) => (Nat.lt_irrefl 1000 h).elim, trivial⟩ ⟨fun _ => rfl, trivial⟩ ?_
        exact hK
      · rw [if_neg (Int.not_lt.mpr hc1)] at h
        refine zv_ald hB zd33_7 rfl rfl rfl ?_
        refine zv_getf hB zd33_8 rfl rfl (fun _ _ => ?_)
        refine zv_con hB zd33_11 rfl ?_
        refine zv_cge hB zd33_14 rfl (fun hc2 => ?_) (fun hc2 => ?_)
        · rw [if_neg (Int.not_lt.mpr hc2)] at h
          have hq := Option.some.inj h
          subst hq
          refine zv_wk hB (L' := [.inr 1000, .inr 1000, .inr 1000]) (F' := [.inl f0]) ⟨fun (h : zv_is (.inr 1000)) => (Nat.lt_irrefl 1000 h).elim, fun (h : zv_is (.inr 1000)) => (Nat.lt_irrefl 1000 h).elim, fun (h : zv_is (.inr 1000)) => (Nat.lt_irrefl 1000 h).elim, trivial⟩ ⟨fun _ => rfl, trivial⟩ ?_
          exact hK
        · rw [if_pos hc2] at h
          refine zv_ald hB zd33_17 rfl rfl rfl ?_
          refine zv_getr hB zd33_18 rfl ?_
          refine zv_ald hB zd33_21 rfl rfl rfl ?_
          refine zv_getf hB zd33_22 rfl rfl (fun _ _ => ?_)
          refine zv_ild hB zd33_25 rfl rfl ?_
          refine zv_ild hB zd33_26 rfl rfl ?_
          refine zv_ushw hB zd33_27 ?_
          refine zv_con hB zd33_28 rfl ?_
          refine zv_andw hB zd33_31 ?_
          obtain ⟨c3, h⟩ := zi_if h
          refine zv_iast hB zd33_32 rfl rfl (zi_ix_ok c3).1 (zi_ix_ok c3).2 ?_
          refine zv_ald hB zd33_33 rfl rfl rfl ?_
          refine zv_dup hB zd33_34 rfl ?_
          refine zv_getf hB zd33_35 rfl rfl (fun _ _ => ?_)
          refine zv_con hB zd33_38 rfl ?_
          refine zv_addw hB zd33_39 ?_
          refine zv_putf hB zd33_40 rfl rfl (fun h => by cases h) rfl ?_
          refine zv_iincw hB zd33_43 rfl rfl ?_
          refine zv_goto hB zd33_46 rfl ?_
          exact ih _ _ _ _ q h hK
  unfold zf_Tape_addNumber at h
  refine zv_con hB zd33_0 rfl ?_
  refine zv_ist hB zd33_2 rfl rfl rfl ?_
  obtain ⟨q4, hq4, h⟩ := zi_bind h
  refine l0 _ _ _ _ _ q4 hq4 ?_
  show good 49 [.inr 1000, .inr 1000, .inr 1000] [] [.inl q4.1] [q4.2]
  have hw := Option.some.inj h
  subst hw
  exact hvret _ _ _ _ zd33_49 trivial ⟨rfl, rfl, rfl⟩
/-! X_feed (IIIII)I -/
-- names: 0 StarTales('arg', 0), 1 Tape(0, 0, 6), 2 (0, 220)(1, 3, 0)
-- fields: f0 = 1.size_; arrays: g0 = 2; out: [('ret', None), ('f', 0), ('g', 0)]
abbrev zy_X_feed : zNL := (3, [(0, 0), (1, 3)], [(1, 3, 1, 0)], [(0, 0, 6, 1), (1, 3, 0, 2)], [(2, 0, 220, 0)])
theorem zyw_X_feed : zv_wf zy_X_feed = true := by decide +kernel
theorem zye_X_feed : zv_ek2 zy_X_feed = true := by decide +kernel
def zf_X_feed (x1 : Int) (x2 : Int) (x3 : Int) (x4 : Int) (x5 : Int) (f0 : Int) (g0 : (Int → Int)) : Option (Int × Int × (Int → Int)) := if 200 < f0 then (some ((-1), f0, g0)) else ((zf_Tape_addNumber x1 f0 g0).bind fun r2 => ((zf_Tape_addNumber x2 r2.1 r2.2).bind fun r3 => ((zf_Tape_addNumber x3 r3.1 r3.2).bind fun r4 => ((zf_Tape_addNumber x4 r4.1 r4.2).bind fun r5 => ((zf_Tape_addNumber x5 r5.1 r5.2).bind fun r6 => (some (r6.1, r6.1, r6.2)))))))
theorem zd32_0 : decode zxm32.2.1 0 = .ok (.aload_n 0, 1) := by decide +kernel
theorem zd32_1 : decode zxm32.2.1 1 = .ok (.getfield 39, 3) := by decide +kernel
theorem zd32_4 : decode zxm32.2.1 4 = .ok (.getfield 190, 3) := by decide +kernel
theorem zd32_7 : decode zxm32.2.1 7 = .ok (.sipush 200, 3) := by decide +kernel
theorem zd32_10 : decode zxm32.2.1 10 = .ok (.if_icmp .le 5, 3) := by decide +kernel
theorem zd32_13 : decode zxm32.2.1 13 = .ok (.iconst (-1), 1) := by decide +kernel
theorem zd32_14 : decode zxm32.2.1 14 = .ok (.ireturn, 1) := by decide +kernel
theorem zd32_15 : decode zxm32.2.1 15 = .ok (.aload_n 0, 1) := by decide +kernel
theorem zd32_16 : decode zxm32.2.1 16 = .ok (.getfield 39, 3) := by decide +kernel
theorem zd32_19 : decode zxm32.2.1 19 = .ok (.iload_n 1, 1) := by decide +kernel
theorem zd32_20 : decode zxm32.2.1 20 = .ok (.invokevirtual 193, 3) := by decide +kernel
theorem zd32_23 : decode zxm32.2.1 23 = .ok (.aload_n 0, 1) := by decide +kernel
theorem zd32_24 : decode zxm32.2.1 24 = .ok (.getfield 39, 3) := by decide +kernel
theorem zd32_27 : decode zxm32.2.1 27 = .ok (.iload_n 2, 1) := by decide +kernel
theorem zd32_28 : decode zxm32.2.1 28 = .ok (.invokevirtual 193, 3) := by decide +kernel
theorem zd32_31 : decode zxm32.2.1 31 = .ok (.aload_n 0, 1) := by decide +kernel
theorem zd32_32 : decode zxm32.2.1 32 = .ok (.getfield 39, 3) := by decide +kernel
theorem zd32_35 : decode zxm32.2.1 35 = .ok (.iload_n 3, 1) := by decide +kernel
theorem zd32_36 : decode zxm32.2.1 36 = .ok (.invokevirtual 193, 3) := by decide +kernel
theorem zd32_39 : decode zxm32.2.1 39 = .ok (.aload_n 0, 1) := by decide +kernel
theorem zd32_40 : decode zxm32.2.1 40 = .ok (.getfield 39, 3) := by decide +kernel
theorem zd32_43 : decode zxm32.2.1 43 = .ok (.iload 4, 2) := by decide +kernel
theorem zd32_45 : decode zxm32.2.1 45 = .ok (.invokevirtual 193, 3) := by decide +kernel
theorem zd32_48 : decode zxm32.2.1 48 = .ok (.aload_n 0, 1) := by decide +kernel
theorem zd32_49 : decode zxm32.2.1 49 = .ok (.getfield 39, 3) := by decide +kernel
theorem zd32_52 : decode zxm32.2.1 52 = .ok (.iload 5, 2) := by decide +kernel
theorem zd32_54 : decode zxm32.2.1 54 = .ok (.invokevirtual 193, 3) := by decide +kernel
theorem zd32_57 : decode zxm32.2.1 57 = .ok (.aload_n 0, 1) := by decide +kernel
theorem zd32_58 : decode zxm32.2.1 58 = .ok (.getfield 39, 3) := by decide +kernel
theorem zd32_61 : decode zxm32.2.1 61 = .ok (.getfield 190, 3) := by decide +kernel
theorem zd32_64 : decode zxm32.2.1 64 = .ok (.ireturn, 1) := by decide +kernel
theorem zt_X_feed {x1 : Int} {x2 : Int} {x3 : Int} {x4 : Int} {x5 : Int} {f0 : Int} {g0 : (Int → Int)} {o : Int × Int × (Int → Int)} (h : zf_X_feed x1 x2 x3 x4 x5 f0 g0 = some o) : zv_Fn z_TB z_cl z_KX zy_X_feed zxm32 (1, 60) [.inr 0, .inl x1, .inl x2, .inl x3, .inl x4, .inl x5] [.inl f0] [g0] (some o.1) [.inl o.2.1] [o.2.2] := zv_meth (K := (z_KF0, z_KC0, z_KL0, z_KT0, [], [], [], none)) (FT := z_FT) (MT := z_MT) (n := 6) zxp32 (z_ks0 _ (fun _ h => List.mem_cons_of_mem _ h) _ _ _ _ (fun j r h _ => by cases h)) (fun _ _ => zs_KX_p) zyw_X_feed (fun va F G h => by obtain ⟨rfl, _⟩ := h; rfl) (fun va F G h => by obtain ⟨rfl, _⟩ := h; rfl) rfl fun good va F G hB hret hvret hP => by
  obtain ⟨rfl, rfl, rfl⟩ := hP
  unfold zf_X_feed at h
  refine zv_ald hB zd32_0 rfl rfl rfl ?_
  refine zv_getr hB zd32_1 rfl ?_
  refine zv_getf hB zd32_4 rfl rfl (fun _ _ => ?_)
  refine zv_con hB zd32_7 rfl ?_
  refine zv_cle hB zd32_10 rfl (fun hc1 => ?_) (fun hc1 => ?_)
  · rw [if_neg (Int.not_lt.mpr hc1)] at h
    refine zv_ald hB zd32_15 rfl rfl rfl ?_
    refine zv_getr hB zd32_16 rfl ?_
    refine zv_ild hB zd32_19 rfl rfl ?_
    obtain ⟨r2, hr2, h⟩ := zi_bind h
    refine zv_cv hB (zv_emq (va2 := [.inr 1, .inl x1]) (F := [.inl f0]) (F' := [.inl r2.1]) (G := [g0]) (G' := [r2.2]) (ρ := [1, 2]) (φ := [0]) (ψ := [0]) [some 0] [some 0] zyw_Tape_addNumber zyw_X_feed zye_X_feed (by decide +kernel) (zt_Tape_addNumber hr2) ⟨⟨_, rfl, fun _ => rfl⟩, trivial⟩ ⟨rfl, trivial⟩ rfl rfl rfl rfl rfl rfl rfl) zd32_20 zxt33 rfl (by decide) (by decide) rfl ?_
    refine zv_ald hB zd32_23 rfl rfl rfl ?_
    refine zv_getr hB zd32_24 rfl ?_
    refine zv_ild hB zd32_27 rfl rfl ?_
    obtain ⟨r3, hr3, h⟩ := zi_bind h
    refine zv_cv hB (zv_emq (va2 := [.inr 1, .inl x2]) (F := [.inl r2.1]) (F' := [.inl r3.1]) (G := [r2.2]) (G' := [r3.2]) (ρ := [1, 2]) (φ := [0]) (ψ := [0]) [some 0] [some 0] zyw_Tape_addNumber zyw_X_feed zye_X_feed (by decide +kernel) (zt_Tape_addNumber hr3) ⟨⟨_, rfl, fun _ => rfl⟩, trivial⟩ ⟨rfl, trivial⟩ rfl rfl rfl rfl rfl rfl rfl) zd32_28 zxt33 rfl (by decide) (by decide) rfl ?_
    refine zv_ald hB zd32_31 rfl rfl rfl ?_
    refine zv_getr hB zd32_32 rfl ?_
    refine zv_ild hB zd32_35 rfl rfl ?_
    obtain ⟨r4, hr4, h⟩ := zi_bind h
    refine zv_cv hB (zv_emq (va2 := [.inr 1, .inl x3]) (F := [.inl r3.1]) (F' := [.inl r4.1]) (G := [r3.2]) (G' := [r4.2]) (ρ := [1, 2]) (φ := [0]) (ψ := [0]) [some 0] [some 0] zyw_Tape_addNumber zyw_X_feed zye_X_feed (by decide +kernel) (zt_Tape_addNumber hr4) ⟨⟨_, rfl, fun _ => rfl⟩, trivial⟩ ⟨rfl, trivial⟩ rfl rfl rfl rfl rfl rfl rfl) zd32_36 zxt33 rfl (by decide) (by decide) rfl ?_
    refine zv_ald hB zd32_39 rfl rfl rfl ?_
    refine zv_getr hB zd32_40 rfl ?_
    refine zv_ild hB zd32_43 rfl rfl ?_
    obtain ⟨r5, hr5, h⟩ := zi_bind h
    refine zv_cv hB (zv_emq (va2 := [.inr 1, .inl x4]) (F := [.inl r4.1]) (F' := [.inl r5.1]) (G := [r4.2]) (G' := [r5.2]) (ρ := [1, 2]) (φ := [0]) (ψ := [0]) [some 0] [some 0] zyw_Tape_addNumber zyw_X_feed zye_X_feed (by decide +kernel) (zt_Tape_addNumber hr5) ⟨⟨_, rfl, fun _ => rfl⟩, trivial⟩ ⟨rfl, trivial⟩ rfl rfl rfl rfl rfl rfl rfl) zd32_45 zxt33 rfl (by decide) (by decide) rfl ?_
    refine zv_ald hB zd32_48 rfl rfl rfl ?_
    refine zv_getr hB zd32_49 rfl ?_
    refine zv_ild hB zd32_52 rfl rfl ?_
    obtain ⟨r6, hr6, h⟩ := zi_bind h
    refine zv_cv hB (zv_emq (va2 := [.inr 1, .inl x5]) (F := [.inl r5.1]) (F' := [.inl r6.1]) (G := [r5.2]) (G' := [r6.2]) (ρ := [1, 2]) (φ := [0]) (ψ := [0]) [some 0] [some 0] zyw_Tape_addNumber zyw_X_feed zye_X_feed (by decide +kernel) (zt_Tape_addNumber hr6) ⟨⟨_, rfl, fun _ => rfl⟩, trivial⟩ ⟨rfl, trivial⟩ rfl rfl rfl rfl rfl rfl rfl) zd32_54 zxt33 rfl (by decide) (by decide) rfl ?_
    refine zv_ald hB zd32_57 rfl rfl rfl ?_
    refine zv_getr hB zd32_58 rfl ?_
    refine zv_getf hB zd32_61 rfl rfl (fun _ _ => ?_)
    have hw := Option.some.inj h
    subst hw
    exact hret _ _ _ _ _ zd32_64 (by trivial) ⟨rfl, rfl, rfl⟩
  · rw [if_pos hc1] at h
    refine zv_con hB zd32_13 rfl ?_
    have hw := Option.some.inj h
    subst hw
    exact hret _ _ _ _ _ zd32_14 (by trivial) ⟨rfl, rfl, rfl⟩
/-! Tape_take (I)Z -/
-- names: 0 Tape('arg', 0)
-- fields: f0 = 0.size_; arrays: ; out: [('ret', None), ('f', 0)]
abbrev zy_Tape_take : zNL := (1, [(0, 3)], [(0, 3, 1, 0)], [], [])
theorem zyw_Tape_take : zv_wf zy_Tape_take = true := by decide +kernel
theorem zye_Tape_take : zv_ek2 zy_Tape_take = true := by decide +kernel
def zf_Tape_take (x1 : Int) (f0 : Int) : Option (Int × Int) := if f0 < x1 then (some (0, f0)) else (some (1, 0))
theorem zd35_0 : decode zxm35.2.1 0 = .ok (.iload_n 1, 1) := by decide +kernel
theorem zd35_1 : decode zxm35.2.1 1 = .ok (.aload_n 0, 1) := by decide +kernel
theorem zd35_2 : decode zxm35.2.1 2 = .ok (.getfield 13, 3) := by decide +kernel
theorem zd35_5 : decode zxm35.2.1 5 = .ok (.if_icmp .le 5, 3) := by decide +kernel
theorem zd35_8 : decode zxm35.2.1 8 = .ok (.iconst 0, 1) := by decide +kernel
theorem zd35_9 : decode zxm35.2.1 9 = .ok (.ireturn, 1) := by decide +kernel
theorem zd35_10 : decode zxm35.2.1 10 = .ok (.aload_n 0, 1) := by decide +kernel
theorem zd35_11 : decode zxm35.2.1 11 = .ok (.iconst 0, 1) := by decide +kernel
theorem zd35_12 : decode zxm35.2.1 12 = .ok (.putfield 13, 3) := by decide +kernel
theorem zd35_15 : decode zxm35.2.1 15 = .ok (.iconst 1, 1) := by decide +kernel
theorem zd35_16 : decode zxm35.2.1 16 = .ok (.ireturn, 1) := by decide +kernel
theorem zt_Tape_take {x1 : Int} {f0 : Int} {o : Int × Int} (h : zf_Tape_take x1 f0 = some o) : zv_Fn z_TB z_cl z_KX zy_Tape_take zxm35 (0, 0) [.inr 0, .inl x1] [.inl f0] [] (some o.1) [.inl o.2] [] := zv_meth (K := (z_KF10, z_KC10, z_KL10, z_KT10, [], [], [], none)) (FT := z_FT) (MT := z_MT) (n := 2) zxp35 (z_ks10 _ (fun _ h => List.mem_cons_of_mem _ h) _ _ _ _ (fun j r h _ => by cases h)) (fun _ _ => zs_KX_p) zyw_Tape_take (fun va F G h => by obtain ⟨rfl, _⟩ := h; rfl) (fun va F G h => by obtain ⟨rfl, _⟩ := h; rfl) rfl fun good va F G hB hret hvret hP => by
  obtain ⟨rfl, rfl, rfl⟩ := hP
  unfold zf_Tape_take at h
  refine zv_ild hB zd35_0 rfl rfl ?_
  refine zv_ald hB zd35_1 rfl rfl rfl ?_
  refine zv_getf hB zd35_2 rfl rfl (fun _ _ => ?_)
  refine zv_cle hB zd35_5 rfl (fun hc1 => ?_) (fun hc1 => ?_)
  · rw [if_neg (Int.not_lt.mpr hc1)] at h
    refine zv_ald hB zd35_10 rfl rfl rfl ?_
    refine zv_con hB zd35_11 rfl ?_
    refine zv_putf hB zd35_12 rfl rfl (fun h => by cases h) rfl ?_
    refine zv_con hB zd35_15 rfl ?_
    have hw := Option.some.inj h
    subst hw
    exact hret _ _ _ _ _ zd35_16 (by constructor <;> decide) ⟨rfl, rfl, rfl⟩
  · rw [if_pos hc1] at h
    refine zv_con hB zd35_8 rfl ?_
    have hw := Option.some.inj h
    subst hw
    exact hret _ _ _ _ _ zd35_9 (by constructor <;> decide) ⟨rfl, rfl, rfl⟩
/-! Math_min (II)I -/
-- names: 
-- fields: ; arrays: ; out: [('ret', None)]
abbrev zy_Math_min : zNL := (0, [], [], [], [])
theorem zyw_Math_min : zv_wf zy_Math_min = true := by decide +kernel
theorem zye_Math_min : zv_ek2 zy_Math_min = true := by decide +kernel
def zf_Math_min (x0 : Int) (x1 : Int) : Option (Int) := if x1 < x0 then (some x1) else (some x0)
theorem zt_Math_min {x0 : Int} {x1 : Int} {o : Int} (h : zf_Math_min x0 x1 = some o) : zv_Fn z_TB z_cl z_KX zy_Math_min zxm37 (0, 0) [.inl x0, .inl x1] [] [] (some o) [] [] := zv_meth (K := (z_KF16, z_KC16, z_KL16, z_KT16, [], [], [], none)) (FT := z_FT) (MT := z_MT) (n := 2) zxp37 (z_ks16 _ (fun _ h => List.mem_cons_of_mem _ h) _ _ _ _ (fun j r h _ => by cases h)) (fun _ _ => zs_KX_p) zyw_Math_min (fun va F G h => by obtain ⟨rfl, _⟩ := h; rfl) (fun va F G h => by obtain ⟨rfl, _⟩ := h; rfl) rfl fun good va F G hB hret hvret hP => by
  obtain ⟨rfl, rfl, rfl⟩ := hP
  unfold zf_Math_min at h
  refine zv_ild hB zd37_0 rfl rfl ?_
  refine zv_ild hB zd37_1 rfl rfl ?_
  refine zv_cgt hB zd37_2 rfl (fun hc1 => ?_) (fun hc1 => ?_)
  · rw [if_pos hc1] at h
    refine zv_ild hB zd37_9 rfl rfl ?_
    have hw := Option.some.inj h
    subst hw
    exact hret _ _ _ _ _ zd37_10 (by trivial) ⟨rfl, rfl, rfl⟩
  · rw [if_neg (Int.not_lt.mpr hc1)] at h
    refine zv_ild hB zd37_5 rfl rfl ?_
    refine zv_goto hB zd37_6 rfl ?_
    have hw := Option.some.inj h
    subst hw
    exact hret _ _ _ _ _ zd37_10 (by trivial) ⟨rfl, rfl, rfl⟩
/-! Law_clear ()V -/
-- names: 0 Law('arg', 0)
-- fields: f0 = 0.steps_, f1 = 0.clauses_, f2 = 0.tellsSeen_, f3 = 0.tellsLines_, f4 = 0.seenByPlace_, f5 = 0.linesByPlace_; arrays: ; out: [('f', 0), ('f', 1), ('f', 2), ('f', 3), ('f', 4), ('f', 5)]
abbrev zy_Law_clear : zNL := (1, [(0, 4)], [(0, 4, 2, 0), (0, 4, 7, 1), (0, 4, 8, 2), (0, 4, 9, 3), (0, 4, 10, 4), (0, 4, 11, 5)], [], [])
theorem zyw_Law_clear : zv_wf zy_Law_clear = true := by decide +kernel
theorem zye_Law_clear : zv_ek2 zy_Law_clear = true := by decide +kernel
def zf_Law_clear (f0 : Int) (f1 : Int) (f2 : Int) (f3 : Int) (f4 : Int) (f5 : Int) : Option (Int × Int × Int × Int × Int × Int) := some (0, 0, 0, 0, 0, 0)
theorem zd38_0 : decode zxm38.2.1 0 = .ok (.aload_n 0, 1) := by decide +kernel
theorem zd38_1 : decode zxm38.2.1 1 = .ok (.iconst 0, 1) := by decide +kernel
theorem zd38_2 : decode zxm38.2.1 2 = .ok (.putfield 16, 3) := by decide +kernel
theorem zd38_5 : decode zxm38.2.1 5 = .ok (.aload_n 0, 1) := by decide +kernel
theorem zd38_6 : decode zxm38.2.1 6 = .ok (.iconst 0, 1) := by decide +kernel
theorem zd38_7 : decode zxm38.2.1 7 = .ok (.putfield 32, 3) := by decide +kernel
theorem zd38_10 : decode zxm38.2.1 10 = .ok (.aload_n 0, 1) := by decide +kernel
theorem zd38_11 : decode zxm38.2.1 11 = .ok (.iconst 0, 1) := by decide +kernel
theorem zd38_12 : decode zxm38.2.1 12 = .ok (.putfield 35, 3) := by decide +kernel
theorem zd38_15 : decode zxm38.2.1 15 = .ok (.aload_n 0, 1) := by decide +kernel
theorem zd38_16 : decode zxm38.2.1 16 = .ok (.iconst 0, 1) := by decide +kernel
theorem zd38_17 : decode zxm38.2.1 17 = .ok (.putfield 39, 3) := by decide +kernel
theorem zd38_20 : decode zxm38.2.1 20 = .ok (.aload_n 0, 1) := by decide +kernel
theorem zd38_21 : decode zxm38.2.1 21 = .ok (.iconst 0, 1) := by decide +kernel
theorem zd38_22 : decode zxm38.2.1 22 = .ok (.putfield 42, 3) := by decide +kernel
theorem zd38_25 : decode zxm38.2.1 25 = .ok (.aload_n 0, 1) := by decide +kernel
theorem zd38_26 : decode zxm38.2.1 26 = .ok (.iconst 0, 1) := by decide +kernel
theorem zd38_27 : decode zxm38.2.1 27 = .ok (.putfield 45, 3) := by decide +kernel
theorem zd38_30 : decode zxm38.2.1 30 = .ok (.return_, 1) := by decide +kernel
theorem zt_Law_clear {f0 : Int} {f1 : Int} {f2 : Int} {f3 : Int} {f4 : Int} {f5 : Int} {o : Int × Int × Int × Int × Int × Int} (h : zf_Law_clear f0 f1 f2 f3 f4 f5 = some o) : zv_Fn z_TB z_cl z_KX zy_Law_clear zxm38 (0, 0) [.inr 0] [.inl f0, .inl f1, .inl f2, .inl f3, .inl f4, .inl f5] [] none [.inl o.1, .inl o.2.1, .inl o.2.2.1, .inl o.2.2.2.1, .inl o.2.2.2.2.1, .inl o.2.2.2.2.2] [] := zv_meth (K := (z_KF2, z_KC2, z_KL2, z_KT2, [], [], [], none)) (FT := z_FT) (MT := z_MT) (n := 1) zxp38 (z_ks2 _ (fun _ h => List.mem_cons_of_mem _ h) _ _ _ _ (fun j r h _ => by cases h)) (fun _ _ => zs_KX_p) zyw_Law_clear (fun va F G h => by obtain ⟨rfl, _⟩ := h; rfl) (fun va F G h => by obtain ⟨rfl, _⟩ := h; rfl) rfl fun good va F G hB hret hvret hP => by
  obtain ⟨rfl, rfl, rfl⟩ := hP
  unfold zf_Law_clear at h
  refine zv_ald hB zd38_0 rfl rfl rfl ?_
  refine zv_con hB zd38_1 rfl ?_
  refine zv_putf hB zd38_2 rfl rfl (fun h => by cases h) rfl ?_
  refine zv_ald hB zd38_5 rfl rfl rfl ?_
  refine zv_con hB zd38_6 rfl ?_
  refine zv_putf hB zd38_7 rfl rfl (fun h => by cases h) rfl ?_
  refine zv_ald hB zd38_10 rfl rfl rfl ?_
  refine zv_con hB zd38_11 rfl ?_
  refine zv_putf hB zd38_12 rfl rfl (fun _ => by decide) rfl ?_
  refine zv_ald hB zd38_15 rfl rfl rfl ?_
  refine zv_con hB zd38_16 rfl ?_
  refine zv_putf hB zd38_17 rfl rfl (fun _ => by decide) rfl ?_
  refine zv_ald hB zd38_20 rfl rfl rfl ?_
  refine zv_con hB zd38_21 rfl ?_
  refine zv_putf hB zd38_22 rfl rfl (fun _ => by decide) rfl ?_
  refine zv_ald hB zd38_25 rfl rfl rfl ?_
  refine zv_con hB zd38_26 rfl ?_
  refine zv_putf hB zd38_27 rfl rfl (fun _ => by decide) rfl ?_
  have hw := Option.some.inj h
  subst hw
  exact hvret _ _ _ _ zd38_30 trivial ⟨rfl, rfl, rfl⟩
/-! LawReader_peek ()I -/
-- names: 0 LawReader('arg', 0), 1 (0, 220)(0, 5, 0)
-- fields: f0 = 0.at_, f1 = 0.length_; arrays: g0 = 1; out: [('ret', None)]
abbrev zy_LawReader_peek : zNL := (2, [(0, 5)], [(0, 5, 2, 0), (0, 5, 1, 1)], [(0, 5, 0, 1)], [(1, 0, 220, 0)])
theorem zyw_LawReader_peek : zv_wf zy_LawReader_peek = true := by decide +kernel
theorem zye_LawReader_peek : zv_ek2 zy_LawReader_peek = true := by decide +kernel
def zf_LawReader_peek (f0 : Int) (f1 : Int) (g0 : (Int → Int)) : Option (Int) := if f0 < 0 then (some (-1)) else (if f0 < f1 then (cond (zi_ix f0 220) (some (g0 f0)) none) else (some (-1)))
theorem zd40_0 : decode zxm40.2.1 0 = .ok (.aload_n 0, 1) := by decide +kernel
theorem zd40_1 : decode zxm40.2.1 1 = .ok (.getfield 15, 3) := by decide +kernel
theorem zd40_4 : decode zxm40.2.1 4 = .ok (.ifCond .lt 26, 3) := by decide +kernel
theorem zd40_7 : decode zxm40.2.1 7 = .ok (.aload_n 0, 1) := by decide +kernel
theorem zd40_8 : decode zxm40.2.1 8 = .ok (.getfield 15, 3) := by decide +kernel
theorem zd40_11 : decode zxm40.2.1 11 = .ok (.aload_n 0, 1) := by decide +kernel
theorem zd40_12 : decode zxm40.2.1 12 = .ok (.getfield 9, 3) := by decide +kernel
theorem zd40_15 : decode zxm40.2.1 15 = .ok (.if_icmp .ge 15, 3) := by decide +kernel
theorem zd40_18 : decode zxm40.2.1 18 = .ok (.aload_n 0, 1) := by decide +kernel
theorem zd40_19 : decode zxm40.2.1 19 = .ok (.getfield 21, 3) := by decide +kernel
theorem zd40_22 : decode zxm40.2.1 22 = .ok (.aload_n 0, 1) := by decide +kernel
theorem zd40_23 : decode zxm40.2.1 23 = .ok (.getfield 15, 3) := by decide +kernel
theorem zd40_26 : decode zxm40.2.1 26 = .ok (.iaload, 1) := by decide +kernel
theorem zd40_27 : decode zxm40.2.1 27 = .ok (.goto 4, 3) := by decide +kernel
theorem zd40_30 : decode zxm40.2.1 30 = .ok (.iconst (-1), 1) := by decide +kernel
theorem zd40_31 : decode zxm40.2.1 31 = .ok (.ireturn, 1) := by decide +kernel
theorem zt_LawReader_peek {f0 : Int} {f1 : Int} {g0 : (Int → Int)} {o : Int} (h : zf_LawReader_peek f0 f1 g0 = some o) : zv_Fn z_TB z_cl z_KX zy_LawReader_peek zxm40 (0, 0) [.inr 0] [.inl f0, .inl f1] [g0] (some o) [.inl f0, .inl f1] [g0] := zv_meth (K := (z_KF3, z_KC3, z_KL3, z_KT3, [], [], [], none)) (FT := z_FT) (MT := z_MT) (n := 1) zxp40 (z_ks3 _ (fun _ h => List.mem_cons_of_mem _ h) _ _ _ _ (fun j r h _ => by cases h)) (fun _ _ => zs_KX_p) zyw_LawReader_peek (fun va F G h => by obtain ⟨rfl, _⟩ := h; rfl) (fun va F G h => by obtain ⟨rfl, _⟩ := h; rfl) rfl fun good va F G hB hret hvret hP => by
  obtain ⟨rfl, rfl, rfl⟩ := hP
  unfold zf_LawReader_peek at h
  refine zv_ald hB zd40_0 rfl rfl rfl ?_
  refine zv_getf hB zd40_1 rfl rfl (fun _ _ => ?_)
  refine zv_zlt hB zd40_4 rfl (fun hc1 => ?_) (fun hc1 => ?_)
  · rw [if_pos hc1] at h
    refine zv_con hB zd40_30 rfl ?_
    have hw := Option.some.inj h
    subst hw
    exact hret _ _ _ _ _ zd40_31 (by trivial) ⟨rfl, rfl, rfl⟩
  · rw [if_neg (Int.not_lt.mpr hc1)] at h
    refine zv_ald hB zd40_7 rfl rfl rfl ?_
    refine zv_getf hB zd40_8 rfl rfl (fun _ _ => ?_)
    refine zv_ald hB zd40_11 rfl rfl rfl ?_
    refine zv_getf hB zd40_12 rfl rfl (fun _ _ => ?_)
    refine zv_cge hB zd40_15 rfl (fun hc2 => ?_) (fun hc2 => ?_)
    · rw [if_neg (Int.not_lt.mpr hc2)] at h
      refine zv_con hB zd40_30 rfl ?_
      have hw := Option.some.inj h
      subst hw
      exact hret _ _ _ _ _ zd40_31 (by trivial) ⟨rfl, rfl, rfl⟩
    · rw [if_pos hc2] at h
      refine zv_ald hB zd40_18 rfl rfl rfl ?_
      refine zv_getr hB zd40_19 rfl ?_
      refine zv_ald hB zd40_22 rfl rfl rfl ?_
      refine zv_getf hB zd40_23 rfl rfl (fun _ _ => ?_)
      obtain ⟨c3, h⟩ := zi_if h
      refine zv_iald hB zd40_26 rfl rfl (zi_ix_ok c3).1 (zi_ix_ok c3).2 (fun _ _ => ?_)
      refine zv_goto hB zd40_27 rfl ?_
      have hw := Option.some.inj h
      subst hw
      exact hret _ _ _ _ _ zd40_31 (by trivial) ⟨rfl, rfl, rfl⟩
/-! Law_addStep (II)I -/
-- names: 0 Law('arg', 0), 1 (0, 200)(0, 4, 0), 2 (0, 200)(0, 4, 1)
-- fields: f0 = 0.steps_; arrays: g0 = 1, g1 = 2; out: [('ret', None), ('f', 0), ('g', 0), ('g', 1)]
abbrev zy_Law_addStep : zNL := (3, [(0, 4)], [(0, 4, 2, 0)], [(0, 4, 0, 1), (0, 4, 1, 2)], [(1, 0, 200, 0), (2, 0, 200, 1)])
theorem zyw_Law_addStep : zv_wf zy_Law_addStep = true := by decide +kernel
theorem zye_Law_addStep : zv_ek2 zy_Law_addStep = true := by decide +kernel
def zf_Law_addStep (x1 : Int) (x2 : Int) (f0 : Int) (g0 : (Int → Int)) (g1 : (Int → Int)) : Option (Int × Int × (Int → Int) × (Int → Int)) := if f0 < 200 then (cond (zi_ix f0 200) (some ((zi_w ((zi_w (f0 + 1)) - 1)), (zi_w (f0 + 1)), (zv_up g0 f0 x1), (zv_up g1 f0 x2))) none) else (some ((zi_w (f0 - 1)), f0, g0, g1))
theorem zd49_0 : decode zxm49.2.1 0 = .ok (.aload_n 0, 1) := by decide +kernel
theorem zd49_1 : decode zxm49.2.1 1 = .ok (.getfield 16, 3) := by decide +kernel
theorem zd49_4 : decode zxm49.2.1 4 = .ok (.sipush 200, 3) := by decide +kernel
theorem zd49_7 : decode zxm49.2.1 7 = .ok (.if_icmp .ge 33, 3) := by decide +kernel
theorem zd49_10 : decode zxm49.2.1 10 = .ok (.aload_n 0, 1) := by decide +kernel
theorem zd49_11 : decode zxm49.2.1 11 = .ok (.getfield 9, 3) := by decide +kernel
theorem zd49_14 : decode zxm49.2.1 14 = .ok (.aload_n 0, 1) := by decide +kernel
theorem zd49_15 : decode zxm49.2.1 15 = .ok (.getfield 16, 3) := by decide +kernel
theorem zd49_18 : decode zxm49.2.1 18 = .ok (.iload_n 1, 1) := by decide +kernel
theorem zd49_19 : decode zxm49.2.1 19 = .ok (.iastore, 1) := by decide +kernel
theorem zd49_20 : decode zxm49.2.1 20 = .ok (.aload_n 0, 1) := by decide +kernel
theorem zd49_21 : decode zxm49.2.1 21 = .ok (.getfield 13, 3) := by decide +kernel
theorem zd49_24 : decode zxm49.2.1 24 = .ok (.aload_n 0, 1) := by decide +kernel
theorem zd49_25 : decode zxm49.2.1 25 = .ok (.getfield 16, 3) := by decide +kernel
theorem zd49_28 : decode zxm49.2.1 28 = .ok (.iload_n 2, 1) := by decide +kernel
theorem zd49_29 : decode zxm49.2.1 29 = .ok (.iastore, 1) := by decide +kernel
theorem zd49_30 : decode zxm49.2.1 30 = .ok (.aload_n 0, 1) := by decide +kernel
theorem zd49_31 : decode zxm49.2.1 31 = .ok (.dup, 1) := by decide +kernel
theorem zd49_32 : decode zxm49.2.1 32 = .ok (.getfield 16, 3) := by decide +kernel
theorem zd49_35 : decode zxm49.2.1 35 = .ok (.iconst 1, 1) := by decide +kernel
theorem zd49_36 : decode zxm49.2.1 36 = .ok (.iadd, 1) := by decide +kernel
theorem zd49_37 : decode zxm49.2.1 37 = .ok (.putfield 16, 3) := by decide +kernel
theorem zd49_40 : decode zxm49.2.1 40 = .ok (.aload_n 0, 1) := by decide +kernel
theorem zd49_41 : decode zxm49.2.1 41 = .ok (.getfield 16, 3) := by decide +kernel
theorem zd49_44 : decode zxm49.2.1 44 = .ok (.iconst 1, 1) := by decide +kernel
theorem zd49_45 : decode zxm49.2.1 45 = .ok (.isub, 1) := by decide +kernel
theorem zd49_46 : decode zxm49.2.1 46 = .ok (.ireturn, 1) := by decide +kernel
theorem zt_Law_addStep {x1 : Int} {x2 : Int} {f0 : Int} {g0 : (Int → Int)} {g1 : (Int → Int)} {o : Int × Int × (Int → Int) × (Int → Int)} (h : zf_Law_addStep x1 x2 f0 g0 g1 = some o) : zv_Fn z_TB z_cl z_KX zy_Law_addStep zxm49 (0, 0) [.inr 0, .inl x1, .inl x2] [.inl f0] [g0, g1] (some o.1) [.inl o.2.1] [o.2.2.1, o.2.2.2] := zv_meth (K := (z_KF2, z_KC2, z_KL2, z_KT2, [], [], [], none)) (FT := z_FT) (MT := z_MT) (n := 3) zxp49 (z_ks2 _ (fun _ h => List.mem_cons_of_mem _ h) _ _ _ _ (fun j r h _ => by cases h)) (fun _ _ => zs_KX_p) zyw_Law_addStep (fun va F G h => by obtain ⟨rfl, _⟩ := h; rfl) (fun va F G h => by obtain ⟨rfl, _⟩ := h; rfl) rfl fun good va F G hB hret hvret hP => by
  obtain ⟨rfl, rfl, rfl⟩ := hP
  unfold zf_Law_addStep at h
  refine zv_ald hB zd49_0 rfl rfl rfl ?_
  refine zv_getf hB zd49_1 rfl rfl (fun _ _ => ?_)
  refine zv_con hB zd49_4 rfl ?_
  refine zv_cge hB zd49_7 rfl (fun hc1 => ?_) (fun hc1 => ?_)
  · rw [if_neg (Int.not_lt.mpr hc1)] at h
    refine zv_ald hB zd49_40 rfl rfl rfl ?_
    refine zv_getf hB zd49_41 rfl rfl (fun _ _ => ?_)
    refine zv_con hB zd49_44 rfl ?_
    refine zv_subw hB zd49_45 ?_
    have hw := Option.some.inj h
    subst hw
    exact hret _ _ _ _ _ zd49_46 (by trivial) ⟨rfl, rfl, rfl⟩
  · rw [if_pos hc1] at h
    refine zv_ald hB zd49_10 rfl rfl rfl ?_
    refine zv_getr hB zd49_11 rfl ?_
    refine zv_ald hB zd49_14 rfl rfl rfl ?_
    refine zv_getf hB zd49_15 rfl rfl (fun _ _ => ?_)
    refine zv_ild hB zd49_18 rfl rfl ?_
    obtain ⟨c2, h⟩ := zi_if h
    refine zv_iast hB zd49_19 rfl rfl (zi_ix_ok c2).1 (zi_ix_ok c2).2 ?_
    refine zv_ald hB zd49_20 rfl rfl rfl ?_
    refine zv_getr hB zd49_21 rfl ?_
    refine zv_ald hB zd49_24 rfl rfl rfl ?_
    refine zv_getf hB zd49_25 rfl rfl (fun _ _ => ?_)
    refine zv_ild hB zd49_28 rfl rfl ?_
    refine zv_iast hB zd49_29 rfl rfl (zi_ix_ok c2).1 (zi_ix_ok c2).2 ?_
    refine zv_ald hB zd49_30 rfl rfl rfl ?_
    refine zv_dup hB zd49_31 rfl ?_
    refine zv_getf hB zd49_32 rfl rfl (fun _ _ => ?_)
    refine zv_con hB zd49_35 rfl ?_
    refine zv_addw hB zd49_36 ?_
    refine zv_putf hB zd49_37 rfl rfl (fun h => by cases h) rfl ?_
    refine zv_ald hB zd49_40 rfl rfl rfl ?_
    refine zv_getf hB zd49_41 rfl rfl (fun _ _ => ?_)
    refine zv_con hB zd49_44 rfl ?_
    refine zv_subw hB zd49_45 ?_
    have hw := Option.some.inj h
    subst hw
    exact hret _ _ _ _ _ zd49_46 (by trivial) ⟨rfl, rfl, rfl⟩
/-! LawReader_isDigit (I)Z -/
-- names: 
-- fields: ; arrays: ; out: [('ret', None)]
abbrev zy_LawReader_isDigit : zNL := (0, [], [], [], [])
theorem zyw_LawReader_isDigit : zv_wf zy_LawReader_isDigit = true := by decide +kernel
theorem zye_LawReader_isDigit : zv_ek2 zy_LawReader_isDigit = true := by decide +kernel
def zf_LawReader_isDigit (x0 : Int) : Option (Int) := if x0 < 48 then (some 0) else (if 57 < x0 then (some 0) else (some 1))
theorem zd47_0 : decode zxm47.2.1 0 = .ok (.iload_n 0, 1) := by decide +kernel
theorem zd47_1 : decode zxm47.2.1 1 = .ok (.bipush 48, 2) := by decide +kernel
theorem zd47_3 : decode zxm47.2.1 3 = .ok (.if_icmp .lt 13, 3) := by decide +kernel
theorem zd47_6 : decode zxm47.2.1 6 = .ok (.iload_n 0, 1) := by decide +kernel
theorem zd47_7 : decode zxm47.2.1 7 = .ok (.bipush 57, 2) := by decide +kernel
theorem zd47_9 : decode zxm47.2.1 9 = .ok (.if_icmp .gt 7, 3) := by decide +kernel
theorem zd47_12 : decode zxm47.2.1 12 = .ok (.iconst 1, 1) := by decide +kernel
theorem zd47_13 : decode zxm47.2.1 13 = .ok (.goto 4, 3) := by decide +kernel
theorem zd47_16 : decode zxm47.2.1 16 = .ok (.iconst 0, 1) := by decide +kernel
theorem zd47_17 : decode zxm47.2.1 17 = .ok (.ireturn, 1) := by decide +kernel
theorem zt_LawReader_isDigit {x0 : Int} {o : Int} (h : zf_LawReader_isDigit x0 = some o) : zv_Fn z_TB z_cl z_KX zy_LawReader_isDigit zxm47 (0, 0) [.inl x0] [] [] (some o) [] [] := zv_meth (K := (z_KF3, z_KC3, z_KL3, z_KT3, [], [], [], none)) (FT := z_FT) (MT := z_MT) (n := 1) zxp47 (z_ks3 _ (fun _ h => List.mem_cons_of_mem _ h) _ _ _ _ (fun j r h _ => by cases h)) (fun _ _ => zs_KX_p) zyw_LawReader_isDigit (fun va F G h => by obtain ⟨rfl, _⟩ := h; rfl) (fun va F G h => by obtain ⟨rfl, _⟩ := h; rfl) rfl fun good va F G hB hret hvret hP => by
  obtain ⟨rfl, rfl, rfl⟩ := hP
  unfold zf_LawReader_isDigit at h
  refine zv_ild hB zd47_0 rfl rfl ?_
  refine zv_con hB zd47_1 rfl ?_
  refine zv_clt hB zd47_3 rfl (fun hc1 => ?_) (fun hc1 => ?_)
  · rw [if_pos hc1] at h
    refine zv_con hB zd47_16 rfl ?_
    have hw := Option.some.inj h
    subst hw
    exact hret _ _ _ _ _ zd47_17 (by constructor <;> decide) ⟨rfl, rfl, rfl⟩
  · rw [if_neg (Int.not_lt.mpr hc1)] at h
    refine zv_ild hB zd47_6 rfl rfl ?_
    refine zv_con hB zd47_7 rfl ?_
    refine zv_cgt hB zd47_9 rfl (fun hc2 => ?_) (fun hc2 => ?_)
    · rw [if_pos hc2] at h
      refine zv_con hB zd47_16 rfl ?_
      have hw := Option.some.inj h
      subst hw
      exact hret _ _ _ _ _ zd47_17 (by constructor <;> decide) ⟨rfl, rfl, rfl⟩
    · rw [if_neg (Int.not_lt.mpr hc2)] at h
      refine zv_con hB zd47_12 rfl ?_
      refine zv_goto hB zd47_13 rfl ?_
      have hw := Option.some.inj h
      subst hw
      exact hret _ _ _ _ _ zd47_17 (by constructor <;> decide) ⟨rfl, rfl, rfl⟩
/-! X_faultAt (II)I -/
-- names: 
-- fields: ; arrays: ; out: [('ret', None)]
abbrev zy_X_faultAt : zNL := (0, [], [], [], [])
theorem zyw_X_faultAt : zv_wf zy_X_faultAt = true := by decide +kernel
theorem zye_X_faultAt : zv_ek2 zy_X_faultAt = true := by decide +kernel
def zf_X_faultAt (x0 : Int) (x1 : Int) : Option (Int) := some (zi_w ((zi_w ((-1000) * x0)) - x1))
theorem zd42_0 : decode zxm42.2.1 0 = .ok (.sipush (-1000), 3) := by decide +kernel
theorem zd42_3 : decode zxm42.2.1 3 = .ok (.iload_n 0, 1) := by decide +kernel
theorem zd42_4 : decode zxm42.2.1 4 = .ok (.imul, 1) := by decide +kernel
theorem zd42_5 : decode zxm42.2.1 5 = .ok (.iload_n 1, 1) := by decide +kernel
theorem zd42_6 : decode zxm42.2.1 6 = .ok (.isub, 1) := by decide +kernel
theorem zd42_7 : decode zxm42.2.1 7 = .ok (.ireturn, 1) := by decide +kernel
theorem zt_X_faultAt {x0 : Int} {x1 : Int} {o : Int} (h : zf_X_faultAt x0 x1 = some o) : zv_Fn z_TB z_cl z_KX zy_X_faultAt zxm42 (0, 0) [.inl x0, .inl x1] [] [] (some o) [] [] := zv_meth (K := (z_KF0, z_KC0, z_KL0, z_KT0, [], [], [], none)) (FT := z_FT) (MT := z_MT) (n := 2) zxp42 (z_ks0 _ (fun _ h => List.mem_cons_of_mem _ h) _ _ _ _ (fun j r h _ => by cases h)) (fun _ _ => zs_KX_p) zyw_X_faultAt (fun va F G h => by obtain ⟨rfl, _⟩ := h; rfl) (fun va F G h => by obtain ⟨rfl, _⟩ := h; rfl) rfl fun good va F G hB hret hvret hP => by
  obtain ⟨rfl, rfl, rfl⟩ := hP
  unfold zf_X_faultAt at h
  refine zv_con hB zd42_0 rfl ?_
  refine zv_ild hB zd42_3 rfl rfl ?_
  refine zv_mulw hB zd42_4 ?_
  refine zv_ild hB zd42_5 rfl rfl ?_
  refine zv_subw hB zd42_6 ?_
  have hw := Option.some.inj h
  subst hw
  exact hret _ _ _ _ _ zd42_7 (by trivial) ⟨rfl, rfl, rfl⟩
/-! LawReader_fail (I)V -/
-- names: 0 LawReader('arg', 0)
-- fields: f0 = 0.fault_, f1 = 0.at_; arrays: ; out: [('f', 0)]
abbrev zy_LawReader_fail : zNL := (1, [(0, 5)], [(0, 5, 3, 0), (0, 5, 2, 1)], [], [])
theorem zyw_LawReader_fail : zv_wf zy_LawReader_fail = true := by decide +kernel
theorem zye_LawReader_fail : zv_ek2 zy_LawReader_fail = true := by decide +kernel
def zf_LawReader_fail (x1 : Int) (f0 : Int) (f1 : Int) : Option (Int) := if f0 = 0 then ((zf_X_faultAt x1 f1).bind fun r2 => (some r2)) else (some f0)
theorem zd41_0 : decode zxm41.2.1 0 = .ok (.aload_n 0, 1) := by decide +kernel
theorem zd41_1 : decode zxm41.2.1 1 = .ok (.getfield 18, 3) := by decide +kernel
theorem zd41_4 : decode zxm41.2.1 4 = .ok (.ifCond .ne 15, 3) := by decide +kernel
theorem zd41_7 : decode zxm41.2.1 7 = .ok (.aload_n 0, 1) := by decide +kernel
theorem zd41_8 : decode zxm41.2.1 8 = .ok (.iload_n 1, 1) := by decide +kernel
theorem zd41_9 : decode zxm41.2.1 9 = .ok (.aload_n 0, 1) := by decide +kernel
theorem zd41_10 : decode zxm41.2.1 10 = .ok (.getfield 15, 3) := by decide +kernel
theorem zd41_13 : decode zxm41.2.1 13 = .ok (.invokestatic 50, 3) := by decide +kernel
theorem zd41_16 : decode zxm41.2.1 16 = .ok (.putfield 18, 3) := by decide +kernel
theorem zd41_19 : decode zxm41.2.1 19 = .ok (.return_, 1) := by decide +kernel
theorem zt_LawReader_fail {x1 : Int} {f0 : Int} {f1 : Int} {o : Int} (h : zf_LawReader_fail x1 f0 f1 = some o) : zv_Fn z_TB z_cl z_KX zy_LawReader_fail zxm41 (1, 60) [.inr 0, .inl x1] [.inl f0, .inl f1] [] none [.inl o, .inl f1] [] := zv_meth (K := (z_KF3, z_KC3, z_KL3, z_KT3, [], [], [], none)) (FT := z_FT) (MT := z_MT) (n := 2) zxp41 (z_ks3 _ (fun _ h => List.mem_cons_of_mem _ h) _ _ _ _ (fun j r h _ => by cases h)) (fun _ _ => zs_KX_p) zyw_LawReader_fail (fun va F G h => by obtain ⟨rfl, _⟩ := h; rfl) (fun va F G h => by obtain ⟨rfl, _⟩ := h; rfl) rfl fun good va F G hB hret hvret hP => by
  obtain ⟨rfl, rfl, rfl⟩ := hP
  unfold zf_LawReader_fail at h
  refine zv_ald hB zd41_0 rfl rfl rfl ?_
  refine zv_getf hB zd41_1 rfl rfl (fun _ _ => ?_)
  refine zv_zne hB zd41_4 rfl (fun hc1 => ?_) (fun hc1 => ?_)
  · rw [if_neg hc1] at h
    have hw := Option.some.inj h
    subst hw
    exact hvret _ _ _ _ zd41_19 trivial ⟨rfl, rfl, rfl⟩
  · rw [if_pos hc1] at h
    refine zv_ald hB zd41_7 rfl rfl rfl ?_
    refine zv_ild hB zd41_8 rfl rfl ?_
    refine zv_ald hB zd41_9 rfl rfl rfl ?_
    refine zv_getf hB zd41_10 rfl rfl (fun _ _ => ?_)
    obtain ⟨r2, hr2, h⟩ := zi_bind h
    refine zv_cs hB (zv_emq (va2 := [.inl x1, .inl f1]) (F := [.inl f0, .inl f1]) (F' := [.inl f0, .inl f1]) (G := []) (G' := []) (ρ := []) (φ := []) (ψ := []) [none, none] [] zyw_X_faultAt zyw_LawReader_fail zye_LawReader_fail (by decide +kernel) (zt_X_faultAt hr2) trivial trivial rfl rfl rfl rfl rfl rfl rfl) zd41_13 zxt42 rfl (by decide) (by decide) rfl ?_
    refine zv_putf hB zd41_16 rfl rfl (fun h => by cases h) rfl ?_
    have hw := Option.some.inj h
    subst hw
    exact hvret _ _ _ _ zd41_19 trivial ⟨rfl, rfl, rfl⟩
/-! LawReader_readNumber ()V -/
-- names: 0 LawReader('arg', 0), 1 (0, 220)(0, 5, 0), 2 Law(0, 5, 4), 3 (0, 200)(2, 4, 0), 4 (0, 200)(2, 4, 1)
-- fields: f0 = 0.at_, f1 = 0.length_, f2 = 0.law_, f3 = 2.steps_, f4 = 0.fault_; arrays: g0 = 1, g1 = 3, g2 = 4; out: [('f', 0), ('f', 3), ('f', 4), ('g', 1), ('g', 2)]
abbrev zy_LawReader_readNumber : zNL := (5, [(0, 5), (2, 4)], [(0, 5, 2, 0), (0, 5, 1, 1), (0, 5, 4, 2), (2, 4, 2, 3), (0, 5, 3, 4)], [(0, 5, 0, 1), (2, 4, 0, 3), (2, 4, 1, 4)], [(1, 0, 220, 0), (3, 0, 200, 1), (4, 0, 200, 2)])
theorem zyw_LawReader_readNumber : zv_wf zy_LawReader_readNumber = true := by decide +kernel
theorem zye_LawReader_readNumber : zv_ek2 zy_LawReader_readNumber = true := by decide +kernel
def zf_LawReader_readNumber_l0_b (f1 : Int) (g0 : (Int → Int)) (rec : Int → Int → Int → Option (Int × Int)) (x1 : Int) (x2 : Int) (f0 : Int) : Option (Int × Int) := if x2 < 5 then ((zf_LawReader_peek f0 f1 g0).bind fun r2 => ((zf_LawReader_isDigit r2).bind fun r3 => (if r3 = 0 then (some (x1, f0)) else ((zf_LawReader_peek f0 f1 g0).bind fun r5 => (rec (zi_w ((zi_w ((zi_w (10 * x1)) + r5)) - 48)) (zi_w (x2 + 1)) (zi_w (f0 + 1))))))) else (some (x1, f0))
def zf_LawReader_readNumber_l0 (f1 : Int) (g0 : (Int → Int)) : Nat → Int → Int → Int → Option (Int × Int)
  | 0, _, _, _ => none
  | n + 1, x1, x2, f0 => zf_LawReader_readNumber_l0_b f1 g0 (zf_LawReader_readNumber_l0 f1 g0 n) x1 x2 f0
def zf_LawReader_readNumber (f0 : Int) (f1 : Int) (f3 : Int) (f4 : Int) (g0 : (Int → Int)) (g1 : (Int → Int)) (g2 : (Int → Int)) : Option (Int × Int × Int × (Int → Int) × (Int → Int)) := (zf_LawReader_readNumber_l0 f1 g0 zi_fu 0 0 f0).bind fun q6 => ((zf_LawReader_peek q6.2 f1 g0).bind fun r7 => ((zf_LawReader_isDigit r7).bind fun r8 => (if r8 = 0 then ((zf_Law_addStep 0 q6.1 f3 g1 g2).bind fun r10 => (some (q6.2, r10.2.1, f4, r10.2.2.1, r10.2.2.2))) else ((zf_LawReader_fail 2 f4 q6.2).bind fun r11 => ((zf_Law_addStep 0 q6.1 f3 g1 g2).bind fun r12 => (some (q6.2, r12.2.1, r11, r12.2.2.1, r12.2.2.2)))))))
theorem zd48_0 : decode zxm48.2.1 0 = .ok (.iconst 0, 1) := by decide +kernel
theorem zd48_1 : decode zxm48.2.1 1 = .ok (.istore_n 1, 1) := by decide +kernel
theorem zd48_2 : decode zxm48.2.1 2 = .ok (.iconst 0, 1) := by decide +kernel
theorem zd48_3 : decode zxm48.2.1 3 = .ok (.istore_n 2, 1) := by decide +kernel
theorem zd48_4 : decode zxm48.2.1 4 = .ok (.iload_n 2, 1) := by decide +kernel
theorem zd48_5 : decode zxm48.2.1 5 = .ok (.iconst 5, 1) := by decide +kernel
theorem zd48_6 : decode zxm48.2.1 6 = .ok (.if_icmp .ge 42, 3) := by decide +kernel
theorem zd48_9 : decode zxm48.2.1 9 = .ok (.aload_n 0, 1) := by decide +kernel
theorem zd48_10 : decode zxm48.2.1 10 = .ok (.invokevirtual 53, 3) := by decide +kernel
theorem zd48_13 : decode zxm48.2.1 13 = .ok (.invokestatic 94, 3) := by decide +kernel
theorem zd48_16 : decode zxm48.2.1 16 = .ok (.ifCond .eq 32, 3) := by decide +kernel
theorem zd48_19 : decode zxm48.2.1 19 = .ok (.bipush 10, 2) := by decide +kernel
theorem zd48_21 : decode zxm48.2.1 21 = .ok (.iload_n 1, 1) := by decide +kernel
theorem zd48_22 : decode zxm48.2.1 22 = .ok (.imul, 1) := by decide +kernel
theorem zd48_23 : decode zxm48.2.1 23 = .ok (.aload_n 0, 1) := by decide +kernel
theorem zd48_24 : decode zxm48.2.1 24 = .ok (.invokevirtual 53, 3) := by decide +kernel
theorem zd48_27 : decode zxm48.2.1 27 = .ok (.iadd, 1) := by decide +kernel
theorem zd48_28 : decode zxm48.2.1 28 = .ok (.bipush 48, 2) := by decide +kernel
theorem zd48_30 : decode zxm48.2.1 30 = .ok (.isub, 1) := by decide +kernel
theorem zd48_31 : decode zxm48.2.1 31 = .ok (.istore_n 1, 1) := by decide +kernel
theorem zd48_32 : decode zxm48.2.1 32 = .ok (.aload_n 0, 1) := by decide +kernel
theorem zd48_33 : decode zxm48.2.1 33 = .ok (.dup, 1) := by decide +kernel
theorem zd48_34 : decode zxm48.2.1 34 = .ok (.getfield 15, 3) := by decide +kernel
theorem zd48_37 : decode zxm48.2.1 37 = .ok (.iconst 1, 1) := by decide +kernel
theorem zd48_38 : decode zxm48.2.1 38 = .ok (.iadd, 1) := by decide +kernel
theorem zd48_39 : decode zxm48.2.1 39 = .ok (.putfield 15, 3) := by decide +kernel
theorem zd48_42 : decode zxm48.2.1 42 = .ok (.iinc 2 1, 3) := by decide +kernel
theorem zd48_45 : decode zxm48.2.1 45 = .ok (.goto (-41), 3) := by decide +kernel
theorem zd48_48 : decode zxm48.2.1 48 = .ok (.aload_n 0, 1) := by decide +kernel
theorem zd48_49 : decode zxm48.2.1 49 = .ok (.invokevirtual 53, 3) := by decide +kernel
theorem zd48_52 : decode zxm48.2.1 52 = .ok (.invokestatic 94, 3) := by decide +kernel
theorem zd48_55 : decode zxm48.2.1 55 = .ok (.ifCond .eq 8, 3) := by decide +kernel
theorem zd48_58 : decode zxm48.2.1 58 = .ok (.aload_n 0, 1) := by decide +kernel
theorem zd48_59 : decode zxm48.2.1 59 = .ok (.iconst 2, 1) := by decide +kernel
theorem zd48_60 : decode zxm48.2.1 60 = .ok (.invokevirtual 57, 3) := by decide +kernel
theorem zd48_63 : decode zxm48.2.1 63 = .ok (.aload_n 0, 1) := by decide +kernel
theorem zd48_64 : decode zxm48.2.1 64 = .ok (.getfield 25, 3) := by decide +kernel
theorem zd48_67 : decode zxm48.2.1 67 = .ok (.iconst 0, 1) := by decide +kernel
theorem zd48_68 : decode zxm48.2.1 68 = .ok (.iload_n 1, 1) := by decide +kernel
theorem zd48_69 : decode zxm48.2.1 69 = .ok (.invokevirtual 76, 3) := by decide +kernel
theorem zd48_72 : decode zxm48.2.1 72 = .ok (.pop, 1) := by decide +kernel
theorem zd48_73 : decode zxm48.2.1 73 = .ok (.return_, 1) := by decide +kernel
theorem zt_LawReader_readNumber {f0 : Int} {f1 : Int} {f3 : Int} {f4 : Int} {g0 : (Int → Int)} {g1 : (Int → Int)} {g2 : (Int → Int)} {o : Int × Int × Int × (Int → Int) × (Int → Int)} (h : zf_LawReader_readNumber f0 f1 f3 f4 g0 g1 g2 = some o) : zv_Fn z_TB z_cl z_KX zy_LawReader_readNumber zxm48 (2, 120) [.inr 0] [.inl f0, .inl f1, .inr 2, .inl f3, .inl f4] [g0, g1, g2] none [.inl o.1, .inl f1, .inr 2, .inl o.2.1, .inl o.2.2.1] [g0, o.2.2.2.1, o.2.2.2.2] := zv_meth (K := (z_KF3, z_KC3, z_KL3, z_KT3, [], [], [], none)) (FT := z_FT) (MT := z_MT) (n := 1) zxp48 (z_ks3 _ (fun _ h => List.mem_cons_of_mem _ h) _ _ _ _ (fun j r h _ => by cases h)) (fun _ _ => zs_KX_p) zyw_LawReader_readNumber (fun va F G h => by obtain ⟨rfl, _⟩ := h; rfl) (fun va F G h => by obtain ⟨rfl, _⟩ := h; rfl) rfl fun good va F G hB hret hvret hP => by
  obtain ⟨rfl, rfl, rfl⟩ := hP
  have l0 : ∀ (n : Nat) (x1 : Int) (x2 : Int) (f0 : Int) (f3 : Int) (f4 : Int) (g1 : (Int → Int)) (g2 : (Int → Int)) (q : Int × Int), zf_LawReader_readNumber_l0 f1 g0 n x1 x2 f0 = some q → (good 48 [.inr 0, .inl q.1, .inr 1000] [] [.inl q.2, .inl f1, .inr 2, .inl f3, .inl f4] [g0, g1, g2]) → good 4 [.inr 0, .inl x1, .inl x2] [] [.inl f0, .inl f1, .inr 2, .inl f3, .inl f4] [g0, g1, g2] := by
    intro n
    induction n with
    | zero => intro x1 x2 f0 f3 f4 g1 g2 q h; exact absurd (show none = some q from h) (fun h => by cases h)
    | succ n ih =>
      intro x1 x2 f0 f3 f4 g1 g2 q h hK
      replace h : zf_LawReader_readNumber_l0_b f1 g0 (zf_LawReader_readNumber_l0 f1 g0 n) x1 x2 f0 = some q := h
      unfold zf_LawReader_readNumber_l0_b at h
      refine zv_ild hB zd48_4 rfl rfl ?_
      refine zv_con hB zd48_5 rfl ?_
      refine zv_cge hB zd48_6 rfl (fun hc1 => ?_) (fun hc1 => ?_)
      · rw [if_neg (Int.not_lt.mpr hc1)] at h
        have hq := Option.some.inj h
        subst hq
        refine zv_wk hB (L' := [.inr 0, .inl x1, .inr 1000]) (F' := [.inl f0, .inl f1, .inr 2, .inl f3, .inl f4]) ⟨fun _ => rfl, fun _ => rfl, fun (h : zv_is (.inr 1000)) => (Nat.lt_irrefl 1000 h).elim, trivial⟩ ⟨fun _ => rfl, fun _ => rfl, fun _ => rfl, fun _ => rfl, fun _ => rfl, trivial⟩ ?_
        exact hK
      · rw [if_pos hc1] at h
        refine zv_ald hB zd48_9 rfl rfl rfl ?_
        obtain ⟨r2, hr2, h⟩ := zi_bind h
        refine zv_cv hB (zv_emq (va2 := [.inr 0]) (F := [.inl f0, .inl f1, .inr 2, .inl f3, .inl f4]) (F' := [.inl f0, .inl f1, .inr 2, .inl f3, .inl f4]) (G := [g0, g1, g2]) (G' := [g0, g1, g2]) (ρ := [0, 1]) (φ := [0, 1]) (ψ := [0]) [some 0, some 1, none, none, none] [some 0, none, none] zyw_LawReader_peek zyw_LawReader_readNumber zye_LawReader_readNumber (by decide +kernel) (zt_LawReader_peek hr2) ⟨⟨_, rfl, fun _ => rfl⟩, ⟨_, rfl, fun _ => rfl⟩, trivial⟩ ⟨rfl, trivial⟩ rfl rfl rfl rfl rfl rfl rfl) zd48_10 zxt40 rfl (by decide) (by decide) rfl ?_
        obtain ⟨r3, hr3, h⟩ := zi_bind h
        refine zv_cs hB (zv_emq (va2 := [.inl r2]) (F := [.inl f0, .inl f1, .inr 2, .inl f3, .inl f4]) (F' := [.inl f0, .inl f1, .inr 2, .inl f3, .inl f4]) (G := [g0, g1, g2]) (G' := [g0, g1, g2]) (ρ := []) (φ := []) (ψ := []) [none, none, none, none, none] [none, none, none] zyw_LawReader_isDigit zyw_LawReader_readNumber zye_LawReader_readNumber (by decide +kernel) (zt_LawReader_isDigit hr3) trivial trivial rfl rfl rfl rfl rfl rfl rfl) zd48_13 zxt47 rfl (by decide) (by decide) rfl ?_
        refine zv_zeq hB zd48_16 rfl (fun hc4 => ?_) (fun hc4 => ?_)
        · rw [if_pos hc4] at h
          have hq := Option.some.inj h
          subst hq
          refine zv_wk hB (L' := [.inr 0, .inl x1, .inr 1000]) (F' := [.inl f0, .inl f1, .inr 2, .inl f3, .inl f4]) ⟨fun _ => rfl, fun _ => rfl, fun (h : zv_is (.inr 1000)) => (Nat.lt_irrefl 1000 h).elim, trivial⟩ ⟨fun _ => rfl, fun _ => rfl, fun _ => rfl, fun _ => rfl, fun _ => rfl, trivial⟩ ?_
          exact hK
        · rw [if_neg hc4] at h
          refine zv_con hB zd48_19 rfl ?_
          refine zv_ild hB zd48_21 rfl rfl ?_
          refine zv_mulw hB zd48_22 ?_
          refine zv_ald hB zd48_23 rfl rfl rfl ?_
          obtain ⟨r5, hr5, h⟩ := zi_bind h
          refine zv_cv hB (zv_emq (va2 := [.inr 0]) (F := [.inl f0, .inl f1, .inr 2, .inl f3, .inl f4]) (F' := [.inl f0, .inl f1, .inr 2, .inl f3, .inl f4]) (G := [g0, g1, g2]) (G' := [g0, g1, g2]) (ρ := [0, 1]) (φ := [0, 1]) (ψ := [0]) [some 0, some 1, none, none, none] [some 0, none, none] zyw_LawReader_peek zyw_LawReader_readNumber zye_LawReader_readNumber (by decide +kernel) (zt_LawReader_peek hr5) ⟨⟨_, rfl, fun _ => rfl⟩, ⟨_, rfl, fun _ => rfl⟩, trivial⟩ ⟨rfl, trivial⟩ rfl rfl rfl rfl rfl rfl rfl) zd48_24 zxt40 rfl (by decide) (by decide) rfl ?_
          refine zv_addw hB zd48_27 ?_
          refine zv_con hB zd48_28 rfl ?_
          refine zv_subw hB zd48_30 ?_
          refine zv_ist hB zd48_31 rfl rfl rfl ?_
          refine zv_ald hB zd48_32 rfl rfl rfl ?_
          refine zv_dup hB zd48_33 rfl ?_
          refine zv_getf hB zd48_34 rfl rfl (fun _ _ => ?_)
          refine zv_con hB zd48_37 rfl ?_
          refine zv_addw hB zd48_38 ?_
          refine zv_putf hB zd48_39 rfl rfl (fun h => by cases h) rfl ?_
          refine zv_iincw hB zd48_42 rfl rfl ?_
          refine zv_goto hB zd48_45 rfl ?_
          exact ih _ _ _ _ _ _ _ q h hK
  unfold zf_LawReader_readNumber at h
  refine zv_con hB zd48_0 rfl ?_
  refine zv_ist hB zd48_1 rfl rfl rfl ?_
  refine zv_con hB zd48_2 rfl ?_
  refine zv_ist hB zd48_3 rfl rfl rfl ?_
  obtain ⟨q6, hq6, h⟩ := zi_bind h
  refine l0 _ _ _ _ _ _ _ _ q6 hq6 ?_
  show good 48 [.inr 0, .inl q6.1, .inr 1000] [] [.inl q6.2, .inl f1, .inr 2, .inl f3, .inl f4] [g0, g1, g2]
  refine zv_ald hB zd48_48 rfl rfl rfl ?_
  obtain ⟨r7, hr7, h⟩ := zi_bind h
  refine zv_cv hB (zv_emq (va2 := [.inr 0]) (F := [.inl q6.2, .inl f1, .inr 2, .inl f3, .inl f4]) (F' := [.inl q6.2, .inl f1, .inr 2, .inl f3, .inl f4]) (G := [g0, g1, g2]) (G' := [g0, g1, g2]) (ρ := [0, 1]) (φ := [0, 1]) (ψ := [0]) [some 0, some 1, none, none, none] [some 0, none, none] zyw_LawReader_peek zyw_LawReader_readNumber zye_LawReader_readNumber (by decide +kernel) (zt_LawReader_peek hr7) ⟨⟨_, rfl, fun _ => rfl⟩, ⟨_, rfl, fun _ => rfl⟩, trivial⟩ ⟨rfl, trivial⟩ rfl rfl rfl rfl rfl rfl rfl) zd48_49 zxt40 rfl (by decide) (by decide) rfl ?_
  obtain ⟨r8, hr8, h⟩ := zi_bind h
  refine zv_cs hB (zv_emq (va2 := [.inl r7]) (F := [.inl q6.2, .inl f1, .inr 2, .inl f3, .inl f4]) (F' := [.inl q6.2, .inl f1, .inr 2, .inl f3, .inl f4]) (G := [g0, g1, g2]) (G' := [g0, g1, g2]) (ρ := []) (φ := []) (ψ := []) [none, none, none, none, none] [none, none, none] zyw_LawReader_isDigit zyw_LawReader_readNumber zye_LawReader_readNumber (by decide +kernel) (zt_LawReader_isDigit hr8) trivial trivial rfl rfl rfl rfl rfl rfl rfl) zd48_52 zxt47 rfl (by decide) (by decide) rfl ?_
  refine zv_zeq hB zd48_55 rfl (fun hc9 => ?_) (fun hc9 => ?_)
  · rw [if_pos hc9] at h
    refine zv_ald hB zd48_63 rfl rfl rfl ?_
    refine zv_getq hB zd48_64 rfl rfl rfl ?_
    refine zv_con hB zd48_67 rfl ?_
    refine zv_ild hB zd48_68 rfl rfl ?_
    obtain ⟨r10, hr10, h⟩ := zi_bind h
    refine zv_cv hB (zv_emq (va2 := [.inr 2, .inl 0, .inl q6.1]) (F := [.inl q6.2, .inl f1, .inr 2, .inl f3, .inl f4]) (F' := [.inl q6.2, .inl f1, .inr 2, .inl r10.2.1, .inl f4]) (G := [g0, g1, g2]) (G' := [g0, r10.2.2.1, r10.2.2.2]) (ρ := [2, 3, 4]) (φ := [3]) (ψ := [1, 2]) [none, none, none, some 0, none] [none, some 0, some 1] zyw_Law_addStep zyw_LawReader_readNumber zye_LawReader_readNumber (by decide +kernel) (zt_Law_addStep hr10) ⟨⟨_, rfl, fun _ => rfl⟩, trivial⟩ ⟨rfl, rfl, trivial⟩ rfl rfl rfl rfl rfl rfl rfl) zd48_69 zxt49 rfl (by decide) (by decide) rfl ?_
    refine zv_pop hB zd48_72 rfl ?_
    have hw := Option.some.inj h
    subst hw
    exact hvret _ _ _ _ zd48_73 trivial ⟨rfl, rfl, rfl⟩
  · rw [if_neg hc9] at h
    refine zv_ald hB zd48_58 rfl rfl rfl ?_
    refine zv_con hB zd48_59 rfl ?_
    obtain ⟨r11, hr11, h⟩ := zi_bind h
    refine zv_cv hB (zv_emq (va2 := [.inr 0, .inl 2]) (F := [.inl q6.2, .inl f1, .inr 2, .inl f3, .inl f4]) (F' := [.inl q6.2, .inl f1, .inr 2, .inl f3, .inl r11]) (G := [g0, g1, g2]) (G' := [g0, g1, g2]) (ρ := [0]) (φ := [4, 0]) (ψ := []) [some 1, none, none, none, some 0] [none, none, none] zyw_LawReader_fail zyw_LawReader_readNumber zye_LawReader_readNumber (by decide +kernel) (zt_LawReader_fail hr11) ⟨⟨_, rfl, fun _ => rfl⟩, ⟨_, rfl, fun _ => rfl⟩, trivial⟩ trivial rfl rfl rfl rfl rfl rfl rfl) zd48_60 zxt41 rfl (by decide) (by decide) rfl ?_
    refine zv_ald hB zd48_63 rfl rfl rfl ?_
    refine zv_getq hB zd48_64 rfl rfl rfl ?_
    refine zv_con hB zd48_67 rfl ?_
    refine zv_ild hB zd48_68 rfl rfl ?_
    obtain ⟨r12, hr12, h⟩ := zi_bind h
    refine zv_cv hB (zv_emq (va2 := [.inr 2, .inl 0, .inl q6.1]) (F := [.inl q6.2, .inl f1, .inr 2, .inl f3, .inl r11]) (F' := [.inl q6.2, .inl f1, .inr 2, .inl r12.2.1, .inl r11]) (G := [g0, g1, g2]) (G' := [g0, r12.2.2.1, r12.2.2.2]) (ρ := [2, 3, 4]) (φ := [3]) (ψ := [1, 2]) [none, none, none, some 0, none] [none, some 0, some 1] zyw_Law_addStep zyw_LawReader_readNumber zye_LawReader_readNumber (by decide +kernel) (zt_Law_addStep hr12) ⟨⟨_, rfl, fun _ => rfl⟩, trivial⟩ ⟨rfl, rfl, trivial⟩ rfl rfl rfl rfl rfl rfl rfl) zd48_69 zxt49 rfl (by decide) (by decide) rfl ?_
    refine zv_pop hB zd48_72 rfl ?_
    have hw := Option.some.inj h
    subst hw
    exact hvret _ _ _ _ zd48_73 trivial ⟨rfl, rfl, rfl⟩
end
section
/-! Methods as functions, and that they do what these do. -/
/-! LawReader_skip (I)V -/
-- names: 0 LawReader('arg', 0), 1 (0, 220)(0, 5, 0)
-- fields: f0 = 0.fault_, f1 = 0.at_, f2 = 0.length_; arrays: g0 = 1; out: [('f', 0), ('f', 1)]
abbrev zy_LawReader_skip : zNL := (2, [(0, 5)], [(0, 5, 3, 0), (0, 5, 2, 1), (0, 5, 1, 2)], [(0, 5, 0, 1)], [(1, 0, 220, 0)])
theorem zyw_LawReader_skip : zv_wf zy_LawReader_skip = true := by decide +kernel
theorem zye_LawReader_skip : zv_ek2 zy_LawReader_skip = true := by decide +kernel
def zf_LawReader_skip (x1 : Int) (f0 : Int) (f1 : Int) (f2 : Int) (g0 : (Int → Int)) : Option (Int × Int) := if f0 = 0 then ((zf_LawReader_peek f1 f2 g0).bind fun r2 => (if r2 = x1 then (some (f0, (zi_w (f1 + 1)))) else ((zf_LawReader_fail 1 f0 f1).bind fun r4 => (some (r4, f1))))) else (some (f0, f1))
theorem zd46_0 : decode zxm46.2.1 0 = .ok (.aload_n 0, 1) := by decide +kernel
theorem zd46_1 : decode zxm46.2.1 1 = .ok (.getfield 18, 3) := by decide +kernel
theorem zd46_4 : decode zxm46.2.1 4 = .ok (.ifCond .eq 4, 3) := by decide +kernel
theorem zd46_7 : decode zxm46.2.1 7 = .ok (.return_, 1) := by decide +kernel
theorem zd46_8 : decode zxm46.2.1 8 = .ok (.aload_n 0, 1) := by decide +kernel
theorem zd46_9 : decode zxm46.2.1 9 = .ok (.invokevirtual 53, 3) := by decide +kernel
theorem zd46_12 : decode zxm46.2.1 12 = .ok (.iload_n 1, 1) := by decide +kernel
theorem zd46_13 : decode zxm46.2.1 13 = .ok (.if_icmp .ne 16, 3) := by decide +kernel
theorem zd46_16 : decode zxm46.2.1 16 = .ok (.aload_n 0, 1) := by decide +kernel
theorem zd46_17 : decode zxm46.2.1 17 = .ok (.dup, 1) := by decide +kernel
theorem zd46_18 : decode zxm46.2.1 18 = .ok (.getfield 15, 3) := by decide +kernel
theorem zd46_21 : decode zxm46.2.1 21 = .ok (.iconst 1, 1) := by decide +kernel
theorem zd46_22 : decode zxm46.2.1 22 = .ok (.iadd, 1) := by decide +kernel
theorem zd46_23 : decode zxm46.2.1 23 = .ok (.putfield 15, 3) := by decide +kernel
theorem zd46_26 : decode zxm46.2.1 26 = .ok (.goto 8, 3) := by decide +kernel
theorem zd46_29 : decode zxm46.2.1 29 = .ok (.aload_n 0, 1) := by decide +kernel
theorem zd46_30 : decode zxm46.2.1 30 = .ok (.iconst 1, 1) := by decide +kernel
theorem zd46_31 : decode zxm46.2.1 31 = .ok (.invokevirtual 57, 3) := by decide +kernel
theorem zd46_34 : decode zxm46.2.1 34 = .ok (.return_, 1) := by decide +kernel
theorem zt_LawReader_skip {x1 : Int} {f0 : Int} {f1 : Int} {f2 : Int} {g0 : (Int → Int)} {o : Int × Int} (h : zf_LawReader_skip x1 f0 f1 f2 g0 = some o) : zv_Fn z_TB z_cl z_KX zy_LawReader_skip zxm46 (2, 120) [.inr 0, .inl x1] [.inl f0, .inl f1, .inl f2] [g0] none [.inl o.1, .inl o.2, .inl f2] [g0] := zv_meth (K := (z_KF3, z_KC3, z_KL3, z_KT3, [], [], [], none)) (FT := z_FT) (MT := z_MT) (n := 2) zxp46 (z_ks3 _ (fun _ h => List.mem_cons_of_mem _ h) _ _ _ _ (fun j r h _ => by cases h)) (fun _ _ => zs_KX_p) zyw_LawReader_skip (fun va F G h => by obtain ⟨rfl, _⟩ := h; rfl) (fun va F G h => by obtain ⟨rfl, _⟩ := h; rfl) rfl fun good va F G hB hret hvret hP => by
  obtain ⟨rfl, rfl, rfl⟩ := hP
  unfold zf_LawReader_skip at h
  refine zv_ald hB zd46_0 rfl rfl rfl ?_
  refine zv_getf hB zd46_1 rfl rfl (fun _ _ => ?_)
  refine zv_zeq hB zd46_4 rfl (fun hc1 => ?_) (fun hc1 => ?_)
  · rw [if_pos hc1] at h
    refine zv_ald hB zd46_8 rfl rfl rfl ?_
    obtain ⟨r2, hr2, h⟩ := zi_bind h
    refine zv_cv hB (zv_emq (va2 := [.inr 0]) (F := [.inl f0, .inl f1, .inl f2]) (F' := [.inl f0, .inl f1, .inl f2]) (G := [g0]) (G' := [g0]) (ρ := [0, 1]) (φ := [1, 2]) (ψ := [0]) [none, some 0, some 1] [some 0] zyw_LawReader_peek zyw_LawReader_skip zye_LawReader_skip (by decide +kernel) (zt_LawReader_peek hr2) ⟨⟨_, rfl, fun _ => rfl⟩, ⟨_, rfl, fun _ => rfl⟩, trivial⟩ ⟨rfl, trivial⟩ rfl rfl rfl rfl rfl rfl rfl) zd46_9 zxt40 rfl (by decide) (by decide) rfl ?_
    refine zv_ild hB zd46_12 rfl rfl ?_
    refine zv_cne hB zd46_13 rfl (fun hc3 => ?_) (fun hc3 => ?_)
    · rw [if_neg hc3] at h
      refine zv_ald hB zd46_29 rfl rfl rfl ?_
      refine zv_con hB zd46_30 rfl ?_
      obtain ⟨r4, hr4, h⟩ := zi_bind h
      refine zv_cv hB (zv_emq (va2 := [.inr 0, .inl 1]) (F := [.inl f0, .inl f1, .inl f2]) (F' := [.inl r4, .inl f1, .inl f2]) (G := [g0]) (G' := [g0]) (ρ := [0]) (φ := [0, 1]) (ψ := []) [some 0, some 1, none] [none] zyw_LawReader_fail zyw_LawReader_skip zye_LawReader_skip (by decide +kernel) (zt_LawReader_fail hr4) ⟨⟨_, rfl, fun _ => rfl⟩, ⟨_, rfl, fun _ => rfl⟩, trivial⟩ trivial rfl rfl rfl rfl rfl rfl rfl) zd46_31 zxt41 rfl (by decide) (by decide) rfl ?_
      have hw := Option.some.inj h
      subst hw
      exact hvret _ _ _ _ zd46_34 trivial ⟨rfl, rfl, rfl⟩
    · rw [if_pos hc3] at h
      refine zv_ald hB zd46_16 rfl rfl rfl ?_
      refine zv_dup hB zd46_17 rfl ?_
      refine zv_getf hB zd46_18 rfl rfl (fun _ _ => ?_)
      refine zv_con hB zd46_21 rfl ?_
      refine zv_addw hB zd46_22 ?_
      refine zv_putf hB zd46_23 rfl rfl (fun h => by cases h) rfl ?_
      refine zv_goto hB zd46_26 rfl ?_
      have hw := Option.some.inj h
      subst hw
      exact hvret _ _ _ _ zd46_34 trivial ⟨rfl, rfl, rfl⟩
  · rw [if_neg hc1] at h
    have hw := Option.some.inj h
    subst hw
    exact hvret _ _ _ _ zd46_7 trivial ⟨rfl, rfl, rfl⟩
end
section
/-! Methods as functions, and that they do what these do. -/
/-! LawReader_readSum (I)V -/
-- names: 0 LawReader('arg', 0), 1 (0, 220)(0, 5, 0), 2 Law(0, 5, 4), 3 (0, 200)(2, 4, 0), 4 (0, 200)(2, 4, 1)
-- fields: f0 = 0.fault_, f1 = 0.at_, f2 = 0.length_, f3 = 0.law_, f4 = 2.steps_; arrays: g0 = 1, g1 = 3, g2 = 4; out: [('f', 0), ('f', 1), ('f', 4), ('g', 1), ('g', 2)]
abbrev zy_LawReader_readSum : zNL := (5, [(0, 5), (2, 4)], [(0, 5, 3, 0), (0, 5, 2, 1), (0, 5, 1, 2), (0, 5, 4, 3), (2, 4, 2, 4)], [(0, 5, 0, 1), (2, 4, 0, 3), (2, 4, 1, 4)], [(1, 0, 220, 0), (3, 0, 200, 1), (4, 0, 200, 2)])
theorem zyw_LawReader_readSum : zv_wf zy_LawReader_readSum = true := by decide +kernel
theorem zye_LawReader_readSum : zv_ek2 zy_LawReader_readSum = true := by decide +kernel
def zm_LawReader_readSum_l0_b (rc : Nat → Int → Int → Int → Int → Int → (Int → Int) → (Int → Int) → (Int → Int) → Option (Int × Int × Int × (Int → Int) × (Int → Int))) (x1 : Int) (f2 : Int) (g0 : (Int → Int)) (rec : Int → Int → Int → (Int → Int) → (Int → Int) → Option (Int × Int × Int × (Int → Int) × (Int → Int))) (f0 : Int) (f1 : Int) (f4 : Int) (g1 : (Int → Int)) (g2 : (Int → Int)) : Option (Int × Int × Int × (Int → Int) × (Int → Int)) := if f0 = 0 then (if f1 < f2 then (cond (zi_ix f1 220) (if (g0 f1) = 43 then ((rc 1 x1 f0 (zi_w (f1 + 1)) f2 f4 g0 g1 g2).bind fun r7 => ((zf_Law_addStep 5 0 r7.2.2.1 r7.2.2.2.1 r7.2.2.2.2).bind fun r8 => (rec r7.1 r7.2.1 r8.2.1 r8.2.2.1 r8.2.2.2))) else (if (g0 f1) = 45 then ((rc 1 x1 f0 (zi_w (f1 + 1)) f2 f4 g0 g1 g2).bind fun r11 => ((zf_Law_addStep 6 0 r11.2.2.1 r11.2.2.2.1 r11.2.2.2.2).bind fun r12 => (rec r11.1 r11.2.1 r12.2.1 r12.2.2.1 r12.2.2.2))) else (some (f0, f1, f4, g1, g2)))) none) else (some (f0, f1, f4, g1, g2))) else (some (f0, f1, f4, g1, g2))
def zm_LawReader_readSum_l0 (rc : Nat → Int → Int → Int → Int → Int → (Int → Int) → (Int → Int) → (Int → Int) → Option (Int × Int × Int × (Int → Int) × (Int → Int))) (x1 : Int) (f2 : Int) (g0 : (Int → Int)) : Nat → Int → Int → Int → (Int → Int) → (Int → Int) → Option (Int × Int × Int × (Int → Int) × (Int → Int))
  | 0, _, _, _, _, _ => none
  | n + 1, f0, f1, f4, g1, g2 => zm_LawReader_readSum_l0_b rc x1 f2 g0 (zm_LawReader_readSum_l0 rc x1 f2 g0 n) f0 f1 f4 g1 g2
def zm_LawReader_readSum (rc : Nat → Int → Int → Int → Int → Int → (Int → Int) → (Int → Int) → (Int → Int) → Option (Int × Int × Int × (Int → Int) × (Int → Int))) (x1 : Int) (f0 : Int) (f1 : Int) (f2 : Int) (f4 : Int) (g0 : (Int → Int)) (g1 : (Int → Int)) (g2 : (Int → Int)) : Option (Int × Int × Int × (Int → Int) × (Int → Int)) := (rc 1 x1 f0 f1 f2 f4 g0 g1 g2).bind fun r1 => ((zm_LawReader_readSum_l0 rc x1 f2 g0 zi_fu r1.1 r1.2.1 r1.2.2.1 r1.2.2.2.1 r1.2.2.2.2).bind fun q13 => (some (q13.1, q13.2.1, q13.2.2.1, q13.2.2.2.1, q13.2.2.2.2)))
theorem zd43_0 : decode zxm43.2.1 0 = .ok (.aload_n 0, 1) := by decide +kernel
theorem zd43_1 : decode zxm43.2.1 1 = .ok (.iload_n 1, 1) := by decide +kernel
theorem zd43_2 : decode zxm43.2.1 2 = .ok (.invokevirtual 88, 3) := by decide +kernel
theorem zd43_5 : decode zxm43.2.1 5 = .ok (.aload_n 0, 1) := by decide +kernel
theorem zd43_6 : decode zxm43.2.1 6 = .ok (.getfield 18, 3) := by decide +kernel
theorem zd43_9 : decode zxm43.2.1 9 = .ok (.ifCond .ne 91, 3) := by decide +kernel
theorem zd43_12 : decode zxm43.2.1 12 = .ok (.aload_n 0, 1) := by decide +kernel
theorem zd43_13 : decode zxm43.2.1 13 = .ok (.getfield 15, 3) := by decide +kernel
theorem zd43_16 : decode zxm43.2.1 16 = .ok (.aload_n 0, 1) := by decide +kernel
theorem zd43_17 : decode zxm43.2.1 17 = .ok (.getfield 9, 3) := by decide +kernel
theorem zd43_20 : decode zxm43.2.1 20 = .ok (.if_icmp .ge 80, 3) := by decide +kernel
theorem zd43_23 : decode zxm43.2.1 23 = .ok (.aload_n 0, 1) := by decide +kernel
theorem zd43_24 : decode zxm43.2.1 24 = .ok (.getfield 21, 3) := by decide +kernel
theorem zd43_27 : decode zxm43.2.1 27 = .ok (.aload_n 0, 1) := by decide +kernel
theorem zd43_28 : decode zxm43.2.1 28 = .ok (.getfield 15, 3) := by decide +kernel
theorem zd43_31 : decode zxm43.2.1 31 = .ok (.iaload, 1) := by decide +kernel
theorem zd43_32 : decode zxm43.2.1 32 = .ok (.bipush 43, 2) := by decide +kernel
theorem zd43_34 : decode zxm43.2.1 34 = .ok (.if_icmp .eq 17, 3) := by decide +kernel
theorem zd43_37 : decode zxm43.2.1 37 = .ok (.aload_n 0, 1) := by decide +kernel
theorem zd43_38 : decode zxm43.2.1 38 = .ok (.getfield 21, 3) := by decide +kernel
theorem zd43_41 : decode zxm43.2.1 41 = .ok (.aload_n 0, 1) := by decide +kernel
theorem zd43_42 : decode zxm43.2.1 42 = .ok (.getfield 15, 3) := by decide +kernel
theorem zd43_45 : decode zxm43.2.1 45 = .ok (.iaload, 1) := by decide +kernel
theorem zd43_46 : decode zxm43.2.1 46 = .ok (.bipush 45, 2) := by decide +kernel
theorem zd43_48 : decode zxm43.2.1 48 = .ok (.if_icmp .ne 52, 3) := by decide +kernel
theorem zd43_51 : decode zxm43.2.1 51 = .ok (.aload_n 0, 1) := by decide +kernel
theorem zd43_52 : decode zxm43.2.1 52 = .ok (.getfield 21, 3) := by decide +kernel
theorem zd43_55 : decode zxm43.2.1 55 = .ok (.aload_n 0, 1) := by decide +kernel
theorem zd43_56 : decode zxm43.2.1 56 = .ok (.getfield 15, 3) := by decide +kernel
theorem zd43_59 : decode zxm43.2.1 59 = .ok (.iaload, 1) := by decide +kernel
theorem zd43_60 : decode zxm43.2.1 60 = .ok (.bipush 43, 2) := by decide +kernel
theorem zd43_62 : decode zxm43.2.1 62 = .ok (.if_icmp .ne 7, 3) := by decide +kernel
theorem zd43_65 : decode zxm43.2.1 65 = .ok (.iconst 5, 1) := by decide +kernel
theorem zd43_66 : decode zxm43.2.1 66 = .ok (.goto 5, 3) := by decide +kernel
theorem zd43_69 : decode zxm43.2.1 69 = .ok (.bipush 6, 2) := by decide +kernel
theorem zd43_71 : decode zxm43.2.1 71 = .ok (.istore_n 2, 1) := by decide +kernel
theorem zd43_72 : decode zxm43.2.1 72 = .ok (.aload_n 0, 1) := by decide +kernel
theorem zd43_73 : decode zxm43.2.1 73 = .ok (.dup, 1) := by decide +kernel
theorem zd43_74 : decode zxm43.2.1 74 = .ok (.getfield 15, 3) := by decide +kernel
theorem zd43_77 : decode zxm43.2.1 77 = .ok (.iconst 1, 1) := by decide +kernel
theorem zd43_78 : decode zxm43.2.1 78 = .ok (.iadd, 1) := by decide +kernel
theorem zd43_79 : decode zxm43.2.1 79 = .ok (.putfield 15, 3) := by decide +kernel
theorem zd43_82 : decode zxm43.2.1 82 = .ok (.aload_n 0, 1) := by decide +kernel
theorem zd43_83 : decode zxm43.2.1 83 = .ok (.iload_n 1, 1) := by decide +kernel
theorem zd43_84 : decode zxm43.2.1 84 = .ok (.invokevirtual 88, 3) := by decide +kernel
theorem zd43_87 : decode zxm43.2.1 87 = .ok (.aload_n 0, 1) := by decide +kernel
theorem zd43_88 : decode zxm43.2.1 88 = .ok (.getfield 25, 3) := by decide +kernel
theorem zd43_91 : decode zxm43.2.1 91 = .ok (.iload_n 2, 1) := by decide +kernel
theorem zd43_92 : decode zxm43.2.1 92 = .ok (.iconst 0, 1) := by decide +kernel
theorem zd43_93 : decode zxm43.2.1 93 = .ok (.invokevirtual 76, 3) := by decide +kernel
theorem zd43_96 : decode zxm43.2.1 96 = .ok (.pop, 1) := by decide +kernel
theorem zd43_97 : decode zxm43.2.1 97 = .ok (.goto (-92), 3) := by decide +kernel
theorem zd43_100 : decode zxm43.2.1 100 = .ok (.return_, 1) := by decide +kernel
theorem zts_LawReader_readSum {dp : Nat} {rc : Nat → Int → Int → Int → Int → Int → (Int → Int) → (Int → Int) → (Int → Int) → Option (Int × Int × Int × (Int → Int) × (Int → Int))} (ih0 : ∀ (x1 : Int) (f0 : Int) (f1 : Int) (f2 : Int) (f4 : Int) (g0 : (Int → Int)) (g1 : (Int → Int)) (g2 : (Int → Int)) (o : Int × Int × Int × (Int → Int) × (Int → Int)), rc 0 x1 f0 f1 f2 f4 g0 g1 g2 = some o → zv_Fn z_TB z_cl z_KX zy_LawReader_readSum zxm43 (6 + dp, 60 * (6 + dp)) [.inr 0, .inl x1] [.inl f0, .inl f1, .inl f2, .inr 2, .inl f4] [g0, g1, g2] none [.inl o.1, .inl o.2.1, .inl f2, .inr 2, .inl o.2.2.1] [g0, o.2.2.2.1, o.2.2.2.2]) (ih1 : ∀ (x1 : Int) (f0 : Int) (f1 : Int) (f2 : Int) (f4 : Int) (g0 : (Int → Int)) (g1 : (Int → Int)) (g2 : (Int → Int)) (o : Int × Int × Int × (Int → Int) × (Int → Int)), rc 1 x1 f0 f1 f2 f4 g0 g1 g2 = some o → zv_Fn z_TB z_cl z_KX zy_LawReader_readSum zxm44 (6 + dp, 60 * (6 + dp)) [.inr 0, .inl x1] [.inl f0, .inl f1, .inl f2, .inr 2, .inl f4] [g0, g1, g2] none [.inl o.1, .inl o.2.1, .inl f2, .inr 2, .inl o.2.2.1] [g0, o.2.2.2.1, o.2.2.2.2]) (ih2 : ∀ (x1 : Int) (f0 : Int) (f1 : Int) (f2 : Int) (f4 : Int) (g0 : (Int → Int)) (g1 : (Int → Int)) (g2 : (Int → Int)) (o : Int × Int × Int × (Int → Int) × (Int → Int)), rc 2 x1 f0 f1 f2 f4 g0 g1 g2 = some o → zv_Fn z_TB z_cl z_KX zy_LawReader_readSum zxm45 (6 + dp, 60 * (6 + dp)) [.inr 0, .inl x1] [.inl f0, .inl f1, .inl f2, .inr 2, .inl f4] [g0, g1, g2] none [.inl o.1, .inl o.2.1, .inl f2, .inr 2, .inl o.2.2.1] [g0, o.2.2.2.1, o.2.2.2.2]) {x1 : Int} {f0 : Int} {f1 : Int} {f2 : Int} {f4 : Int} {g0 : (Int → Int)} {g1 : (Int → Int)} {g2 : (Int → Int)} {o : Int × Int × Int × (Int → Int) × (Int → Int)} (h : zm_LawReader_readSum rc x1 f0 f1 f2 f4 g0 g1 g2 = some o) : zv_Fn z_TB z_cl z_KX zy_LawReader_readSum zxm43 (6 + (dp + 1), 60 * (6 + (dp + 1))) [.inr 0, .inl x1] [.inl f0, .inl f1, .inl f2, .inr 2, .inl f4] [g0, g1, g2] none [.inl o.1, .inl o.2.1, .inl f2, .inr 2, .inl o.2.2.1] [g0, o.2.2.2.1, o.2.2.2.2] := zv_meth (K := (z_KF3, z_KC3, z_KL3, z_KT3, [], [], [], none)) (FT := z_FT) (MT := z_MT) (n := 2) zxp43 (z_ks3 _ (fun _ h => List.mem_cons_of_mem _ h) _ _ _ _ (fun j r h _ => by cases h)) (fun _ _ => zs_KX_p) zyw_LawReader_readSum (fun va F G h => by obtain ⟨rfl, _⟩ := h; rfl) (fun va F G h => by obtain ⟨rfl, _⟩ := h; rfl) rfl fun good va F G hB hret hvret hP => by
  obtain ⟨rfl, rfl, rfl⟩ := hP
  have l0 : ∀ (n : Nat) (x1 : Int) (f0 : Int) (f1 : Int) (f4 : Int) (g1 : (Int → Int)) (g2 : (Int → Int)) (q : Int × Int × Int × (Int → Int) × (Int → Int)), zm_LawReader_readSum_l0 rc x1 f2 g0 n f0 f1 f4 g1 g2 = some q → (good 100 [.inr 1000, .inr 1000, .inr 1000] [] [.inl q.1, .inl q.2.1, .inl f2, .inr 2, .inl q.2.2.1] [g0, q.2.2.2.1, q.2.2.2.2]) → good 5 [.inr 0, .inl x1, .inr 1000] [] [.inl f0, .inl f1, .inl f2, .inr 2, .inl f4] [g0, g1, g2] := by
    intro n
    induction n with
    | zero => intro x1 f0 f1 f4 g1 g2 q h; exact absurd (show none = some q from h) (fun h => by cases h)
    | succ n ih =>
      intro x1 f0 f1 f4 g1 g2 q h hK
      replace h : zm_LawReader_readSum_l0_b rc x1 f2 g0 (zm_LawReader_readSum_l0 rc x1 f2 g0 n) f0 f1 f4 g1 g2 = some q := h
      unfold zm_LawReader_readSum_l0_b at h
      refine zv_ald hB zd43_5 rfl rfl rfl ?_
      refine zv_getf hB zd43_6 rfl rfl (fun _ _ => ?_)
      refine zv_zne hB zd43_9 rfl (fun hc2 => ?_) (fun hc2 => ?_)
      · rw [if_neg hc2] at h
        have hq := Option.some.inj h
        subst hq
        refine zv_wk hB (L' := [.inr 1000, .inr 1000, .inr 1000]) (F' := [.inl f0, .inl f1, .inl f2, .inr 2, .inl f4]) ⟨fun (h : zv_is (.inr 1000)) => (Nat.lt_irrefl 1000 h).elim, fun (h : zv_is (.inr 1000)) => (Nat.lt_irrefl 1000 h).elim, fun (h : zv_is (.inr 1000)) => (Nat.lt_irrefl 1000 h).elim, trivial⟩ ⟨fun _ => rfl, fun _ => rfl, fun _ => rfl, fun _ => rfl, fun _ => rfl, trivial⟩ ?_
        exact hK
      · rw [if_pos hc2] at h
        refine zv_ald hB zd43_12 rfl rfl rfl ?_
        refine zv_getf hB zd43_13 rfl rfl (fun _ _ => ?_)
        refine zv_ald hB zd43_16 rfl rfl rfl ?_
        refine zv_getf hB zd43_17 rfl rfl (fun _ _ => ?_)
        refine zv_cge hB zd43_20 rfl (fun hc3 => ?_) (fun hc3 => ?_)
        · rw [if_neg (Int.not_lt.mpr hc3)] at h
          have hq := Option.some.inj h
          subst hq
          refine zv_wk hB (L' := [.inr 1000, .inr 1000, .inr 1000]) (F' := [.inl f0, .inl f1, .inl f2, .inr 2, .inl f4]) ⟨fun (h : zv_is (.inr 1000)) => (Nat.lt_irrefl 1000 h).elim, fun (h : zv_is (.inr 1000)) => (Nat.lt_irrefl 1000 h).elim, fun (h : zv_is (.inr 1000)) => (Nat.lt_irrefl 1000 h).elim, trivial⟩ ⟨fun _ => rfl, fun _ => rfl, fun _ => rfl, fun _ => rfl, fun _ => rfl, trivial⟩ ?_
          exact hK
        · rw [if_pos hc3] at h
          refine zv_ald hB zd43_23 rfl rfl rfl ?_
          refine zv_getr hB zd43_24 rfl ?_
          refine zv_ald hB zd43_27 rfl rfl rfl ?_
          refine zv_getf hB zd43_28 rfl rfl (fun _ _ => ?_)
          obtain ⟨c4, h⟩ := zi_if h
          refine zv_iald hB zd43_31 rfl rfl (zi_ix_ok c4).1 (zi_ix_ok c4).2 (fun _ _ => ?_)
          refine zv_con hB zd43_32 rfl ?_
          refine zv_ceq hB zd43_34 rfl (fun hc5 => ?_) (fun hc5 => ?_)
          · rw [if_pos hc5] at h
            refine zv_ald hB zd43_51 rfl rfl rfl ?_
            refine zv_getr hB zd43_52 rfl ?_
            refine zv_ald hB zd43_55 rfl rfl rfl ?_
            refine zv_getf hB zd43_56 rfl rfl (fun _ _ => ?_)
            refine zv_iald hB zd43_59 rfl rfl (zi_ix_ok c4).1 (zi_ix_ok c4).2 (fun _ _ => ?_)
            refine zv_con hB zd43_60 rfl ?_
            refine zv_cne hB zd43_62 rfl (fun hc => absurd hc (by omega)) (fun _ => ?_)
            refine zv_con hB zd43_65 rfl ?_
            refine zv_goto hB zd43_66 rfl ?_
            refine zv_ist hB zd43_71 rfl rfl rfl ?_
            refine zv_ald hB zd43_72 rfl rfl rfl ?_
            refine zv_dup hB zd43_73 rfl ?_
            refine zv_getf hB zd43_74 rfl rfl (fun _ _ => ?_)
            refine zv_con hB zd43_77 rfl ?_
            refine zv_addw hB zd43_78 ?_
            refine zv_putf hB zd43_79 rfl rfl (fun h => by cases h) rfl ?_
            refine zv_ald hB zd43_82 rfl rfl rfl ?_
            refine zv_ild hB zd43_83 rfl rfl ?_
            obtain ⟨r7, hr7, h⟩ := zi_bind h
            refine zv_cv hB (show zv_Fn _ _ _ zy_LawReader_readSum _ _ [.inr 0, .inl x1] [.inl f0, .inl (zi_w (f1 + 1)), .inl f2, .inr 2, .inl f4] [g0, g1, g2] none [.inl r7.1, .inl r7.2.1, .inl f2, .inr 2, .inl r7.2.2.1] [g0, r7.2.2.2.1, r7.2.2.2.2] from ih1 _ _ _ _ _ _ _ _ r7 hr7) zd43_84 zxt44 rfl (by show 6 + dp + 1 ≤ 6 + (dp + 1); omega) (by show 8 + (3 + 11) + 60 * (6 + dp) ≤ 60 * (6 + (dp + 1)); omega) rfl ?_
            refine zv_ald hB zd43_87 rfl rfl rfl ?_
            refine zv_getq hB zd43_88 rfl rfl rfl ?_
            refine zv_ild hB zd43_91 rfl rfl ?_
            refine zv_con hB zd43_92 rfl ?_
            obtain ⟨r8, hr8, h⟩ := zi_bind h
            refine zv_cv hB (zv_emq (va2 := [.inr 2, .inl 5, .inl 0]) (F := [.inl r7.1, .inl r7.2.1, .inl f2, .inr 2, .inl r7.2.2.1]) (F' := [.inl r7.1, .inl r7.2.1, .inl f2, .inr 2, .inl r8.2.1]) (G := [g0, r7.2.2.2.1, r7.2.2.2.2]) (G' := [g0, r8.2.2.1, r8.2.2.2]) (ρ := [2, 3, 4]) (φ := [4]) (ψ := [1, 2]) [none, none, none, none, some 0] [none, some 0, some 1] zyw_Law_addStep zyw_LawReader_readSum zye_LawReader_readSum (by decide +kernel) (zt_Law_addStep hr8) ⟨⟨_, rfl, fun _ => rfl⟩, trivial⟩ ⟨rfl, rfl, trivial⟩ rfl rfl rfl rfl rfl rfl rfl) zd43_93 zxt49 rfl (by show 0 + 1 ≤ 6 + (dp + 1); omega) (by show 8 + (3 + 11) + 60 * (0) ≤ 60 * (6 + (dp + 1)); omega) rfl ?_
            refine zv_pop hB zd43_96 rfl ?_
            refine zv_goto hB zd43_97 rfl ?_
            refine zv_wk hB (L' := [.inr 0, .inl x1, .inr 1000]) (F' := [.inl r7.1, .inl r7.2.1, .inl f2, .inr 2, .inl r8.2.1]) ⟨fun _ => rfl, fun _ => rfl, fun (h : zv_is (.inr 1000)) => (Nat.lt_irrefl 1000 h).elim, trivial⟩ ⟨fun _ => rfl, fun _ => rfl, fun _ => rfl, fun _ => rfl, fun _ => rfl, trivial⟩ ?_
            exact ih _ _ _ _ _ _ q h hK
          · rw [if_neg hc5] at h
            refine zv_ald hB zd43_37 rfl rfl rfl ?_
            refine zv_getr hB zd43_38 rfl ?_
            refine zv_ald hB zd43_41 rfl rfl rfl ?_
            refine zv_getf hB zd43_42 rfl rfl (fun _ _ => ?_)
            refine zv_iald hB zd43_45 rfl rfl (zi_ix_ok c4).1 (zi_ix_ok c4).2 (fun _ _ => ?_)
            refine zv_con hB zd43_46 rfl ?_
            refine zv_cne hB zd43_48 rfl (fun hc9 => ?_) (fun hc9 => ?_)
            · rw [if_neg hc9] at h
              have hq := Option.some.inj h
              subst hq
              refine zv_wk hB (L' := [.inr 1000, .inr 1000, .inr 1000]) (F' := [.inl f0, .inl f1, .inl f2, .inr 2, .inl f4]) ⟨fun (h : zv_is (.inr 1000)) => (Nat.lt_irrefl 1000 h).elim, fun (h : zv_is (.inr 1000)) => (Nat.lt_irrefl 1000 h).elim, fun (h : zv_is (.inr 1000)) => (Nat.lt_irrefl 1000 h).elim, trivial⟩ ⟨fun _ => rfl, fun _ => rfl, fun _ => rfl, fun _ => rfl, fun _ => rfl, trivial⟩ ?_
              exact hK
            · rw [if_pos hc9] at h
              refine zv_ald hB zd43_51 rfl rfl rfl ?_
              refine zv_getr hB zd43_52 rfl ?_
              refine zv_ald hB zd43_55 rfl rfl rfl ?_
              refine zv_getf hB zd43_56 rfl rfl (fun _ _ => ?_)
              refine zv_iald hB zd43_59 rfl rfl (zi_ix_ok c4).1 (zi_ix_ok c4).2 (fun _ _ => ?_)
              refine zv_con hB zd43_60 rfl ?_
              refine zv_cne hB zd43_62 rfl (fun _ => ?_) (fun hc => absurd hc (by omega))
              refine zv_con hB zd43_69 rfl ?_
              refine zv_ist hB zd43_71 rfl rfl rfl ?_
              refine zv_ald hB zd43_72 rfl rfl rfl ?_
              refine zv_dup hB zd43_73 rfl ?_
              refine zv_getf hB zd43_74 rfl rfl (fun _ _ => ?_)
              refine zv_con hB zd43_77 rfl ?_
              refine zv_addw hB zd43_78 ?_
              refine zv_putf hB zd43_79 rfl rfl (fun h => by cases h) rfl ?_
              refine zv_ald hB zd43_82 rfl rfl rfl ?_
              refine zv_ild hB zd43_83 rfl rfl ?_
              obtain ⟨r11, hr11, h⟩ := zi_bind h
              refine zv_cv hB (show zv_Fn _ _ _ zy_LawReader_readSum _ _ [.inr 0, .inl x1] [.inl f0, .inl (zi_w (f1 + 1)), .inl f2, .inr 2, .inl f4] [g0, g1, g2] none [.inl r11.1, .inl r11.2.1, .inl f2, .inr 2, .inl r11.2.2.1] [g0, r11.2.2.2.1, r11.2.2.2.2] from ih1 _ _ _ _ _ _ _ _ r11 hr11) zd43_84 zxt44 rfl (by show 6 + dp + 1 ≤ 6 + (dp + 1); omega) (by show 8 + (3 + 11) + 60 * (6 + dp) ≤ 60 * (6 + (dp + 1)); omega) rfl ?_
              refine zv_ald hB zd43_87 rfl rfl rfl ?_
              refine zv_getq hB zd43_88 rfl rfl rfl ?_
              refine zv_ild hB zd43_91 rfl rfl ?_
              refine zv_con hB zd43_92 rfl ?_
              obtain ⟨r12, hr12, h⟩ := zi_bind h
              refine zv_cv hB (zv_emq (va2 := [.inr 2, .inl 6, .inl 0]) (F := [.inl r11.1, .inl r11.2.1, .inl f2, .inr 2, .inl r11.2.2.1]) (F' := [.inl r11.1, .inl r11.2.1, .inl f2, .inr 2, .inl r12.2.1]) (G := [g0, r11.2.2.2.1, r11.2.2.2.2]) (G' := [g0, r12.2.2.1, r12.2.2.2]) (ρ := [2, 3, 4]) (φ := [4]) (ψ := [1, 2]) [none, none, none, none, some 0] [none, some 0, some 1] zyw_Law_addStep zyw_LawReader_readSum zye_LawReader_readSum (by decide +kernel) (zt_Law_addStep hr12) ⟨⟨_, rfl, fun _ => rfl⟩, trivial⟩ ⟨rfl, rfl, trivial⟩ rfl rfl rfl rfl rfl rfl rfl) zd43_93 zxt49 rfl (by show 0 + 1 ≤ 6 + (dp + 1); omega) (by show 8 + (3 + 11) + 60 * (0) ≤ 60 * (6 + (dp + 1)); omega) rfl ?_
              refine zv_pop hB zd43_96 rfl ?_
              refine zv_goto hB zd43_97 rfl ?_
              refine zv_wk hB (L' := [.inr 0, .inl x1, .inr 1000]) (F' := [.inl r11.1, .inl r11.2.1, .inl f2, .inr 2, .inl r12.2.1]) ⟨fun _ => rfl, fun _ => rfl, fun (h : zv_is (.inr 1000)) => (Nat.lt_irrefl 1000 h).elim, trivial⟩ ⟨fun _ => rfl, fun _ => rfl, fun _ => rfl, fun _ => rfl, fun _ => rfl, trivial⟩ ?_
              exact ih _ _ _ _ _ _ q h hK
  unfold zm_LawReader_readSum at h
  refine zv_ald hB zd43_0 rfl rfl rfl ?_
  refine zv_ild hB zd43_1 rfl rfl ?_
  obtain ⟨r1, hr1, h⟩ := zi_bind h
  refine zv_cv hB (show zv_Fn _ _ _ zy_LawReader_readSum _ _ [.inr 0, .inl x1] [.inl f0, .inl f1, .inl f2, .inr 2, .inl f4] [g0, g1, g2] none [.inl r1.1, .inl r1.2.1, .inl f2, .inr 2, .inl r1.2.2.1] [g0, r1.2.2.2.1, r1.2.2.2.2] from ih1 _ _ _ _ _ _ _ _ r1 hr1) zd43_2 zxt44 rfl (by show 6 + dp + 1 ≤ 6 + (dp + 1); omega) (by show 8 + (3 + 11) + 60 * (6 + dp) ≤ 60 * (6 + (dp + 1)); omega) rfl ?_
  obtain ⟨q13, hq13, h⟩ := zi_bind h
  refine l0 _ _ _ _ _ _ _ q13 hq13 ?_
  show good 100 [.inr 1000, .inr 1000, .inr 1000] [] [.inl q13.1, .inl q13.2.1, .inl f2, .inr 2, .inl q13.2.2.1] [g0, q13.2.2.2.1, q13.2.2.2.2]
  have hw := Option.some.inj h
  subst hw
  exact hvret _ _ _ _ zd43_100 trivial ⟨rfl, rfl, rfl⟩
/-! LawReader_readTerm (I)V -/
def zm_LawReader_readTerm_l0_b (rc : Nat → Int → Int → Int → Int → Int → (Int → Int) → (Int → Int) → (Int → Int) → Option (Int × Int × Int × (Int → Int) × (Int → Int))) (x1 : Int) (f2 : Int) (g0 : (Int → Int)) (rec : Int → Int → Int → (Int → Int) → (Int → Int) → Option (Int × Int × Int × (Int → Int) × (Int → Int))) (f0 : Int) (f1 : Int) (f4 : Int) (g1 : (Int → Int)) (g2 : (Int → Int)) : Option (Int × Int × Int × (Int → Int) × (Int → Int)) := if f0 = 0 then (if f1 < f2 then (cond (zi_ix f1 220) (if (g0 f1) = 42 then ((rc 2 x1 f0 (zi_w (f1 + 1)) f2 f4 g0 g1 g2).bind fun r7 => ((zf_Law_addStep 7 0 r7.2.2.1 r7.2.2.2.1 r7.2.2.2.2).bind fun r8 => (rec r7.1 r7.2.1 r8.2.1 r8.2.2.1 r8.2.2.2))) else (if (g0 f1) = 47 then ((rc 2 x1 f0 (zi_w (f1 + 1)) f2 f4 g0 g1 g2).bind fun r12 => ((zf_Law_addStep 8 0 r12.2.2.1 r12.2.2.2.1 r12.2.2.2.2).bind fun r13 => (rec r12.1 r12.2.1 r13.2.1 r13.2.2.1 r13.2.2.2))) else (if (g0 f1) = 37 then ((rc 2 x1 f0 (zi_w (f1 + 1)) f2 f4 g0 g1 g2).bind fun r17 => ((zf_Law_addStep 9 0 r17.2.2.1 r17.2.2.2.1 r17.2.2.2.2).bind fun r18 => (rec r17.1 r17.2.1 r18.2.1 r18.2.2.1 r18.2.2.2))) else (some (f0, f1, f4, g1, g2))))) none) else (some (f0, f1, f4, g1, g2))) else (some (f0, f1, f4, g1, g2))
def zm_LawReader_readTerm_l0 (rc : Nat → Int → Int → Int → Int → Int → (Int → Int) → (Int → Int) → (Int → Int) → Option (Int × Int × Int × (Int → Int) × (Int → Int))) (x1 : Int) (f2 : Int) (g0 : (Int → Int)) : Nat → Int → Int → Int → (Int → Int) → (Int → Int) → Option (Int × Int × Int × (Int → Int) × (Int → Int))
  | 0, _, _, _, _, _ => none
  | n + 1, f0, f1, f4, g1, g2 => zm_LawReader_readTerm_l0_b rc x1 f2 g0 (zm_LawReader_readTerm_l0 rc x1 f2 g0 n) f0 f1 f4 g1 g2
def zm_LawReader_readTerm (rc : Nat → Int → Int → Int → Int → Int → (Int → Int) → (Int → Int) → (Int → Int) → Option (Int × Int × Int × (Int → Int) × (Int → Int))) (x1 : Int) (f0 : Int) (f1 : Int) (f2 : Int) (f4 : Int) (g0 : (Int → Int)) (g1 : (Int → Int)) (g2 : (Int → Int)) : Option (Int × Int × Int × (Int → Int) × (Int → Int)) := (rc 2 x1 f0 f1 f2 f4 g0 g1 g2).bind fun r1 => ((zm_LawReader_readTerm_l0 rc x1 f2 g0 zi_fu r1.1 r1.2.1 r1.2.2.1 r1.2.2.2.1 r1.2.2.2.2).bind fun q19 => (some (q19.1, q19.2.1, q19.2.2.1, q19.2.2.2.1, q19.2.2.2.2)))
theorem zd44_0 : decode zxm44.2.1 0 = .ok (.aload_n 0, 1) := by decide +kernel
theorem zd44_1 : decode zxm44.2.1 1 = .ok (.iload_n 1, 1) := by decide +kernel
theorem zd44_2 : decode zxm44.2.1 2 = .ok (.invokevirtual 91, 3) := by decide +kernel
theorem zd44_5 : decode zxm44.2.1 5 = .ok (.aload_n 0, 1) := by decide +kernel
theorem zd44_6 : decode zxm44.2.1 6 = .ok (.getfield 18, 3) := by decide +kernel
theorem zd44_9 : decode zxm44.2.1 9 = .ok (.ifCond .ne 125, 3) := by decide +kernel
theorem zd44_12 : decode zxm44.2.1 12 = .ok (.aload_n 0, 1) := by decide +kernel
theorem zd44_13 : decode zxm44.2.1 13 = .ok (.getfield 15, 3) := by decide +kernel
theorem zd44_16 : decode zxm44.2.1 16 = .ok (.aload_n 0, 1) := by decide +kernel
theorem zd44_17 : decode zxm44.2.1 17 = .ok (.getfield 9, 3) := by decide +kernel
theorem zd44_20 : decode zxm44.2.1 20 = .ok (.if_icmp .ge 114, 3) := by decide +kernel
theorem zd44_23 : decode zxm44.2.1 23 = .ok (.aload_n 0, 1) := by decide +kernel
theorem zd44_24 : decode zxm44.2.1 24 = .ok (.getfield 21, 3) := by decide +kernel
theorem zd44_27 : decode zxm44.2.1 27 = .ok (.aload_n 0, 1) := by decide +kernel
theorem zd44_28 : decode zxm44.2.1 28 = .ok (.getfield 15, 3) := by decide +kernel
theorem zd44_31 : decode zxm44.2.1 31 = .ok (.iaload, 1) := by decide +kernel
theorem zd44_32 : decode zxm44.2.1 32 = .ok (.bipush 42, 2) := by decide +kernel
theorem zd44_34 : decode zxm44.2.1 34 = .ok (.if_icmp .eq 31, 3) := by decide +kernel
theorem zd44_37 : decode zxm44.2.1 37 = .ok (.aload_n 0, 1) := by decide +kernel
theorem zd44_38 : decode zxm44.2.1 38 = .ok (.getfield 21, 3) := by decide +kernel
theorem zd44_41 : decode zxm44.2.1 41 = .ok (.aload_n 0, 1) := by decide +kernel
theorem zd44_42 : decode zxm44.2.1 42 = .ok (.getfield 15, 3) := by decide +kernel
theorem zd44_45 : decode zxm44.2.1 45 = .ok (.iaload, 1) := by decide +kernel
theorem zd44_46 : decode zxm44.2.1 46 = .ok (.bipush 47, 2) := by decide +kernel
theorem zd44_48 : decode zxm44.2.1 48 = .ok (.if_icmp .eq 17, 3) := by decide +kernel
theorem zd44_51 : decode zxm44.2.1 51 = .ok (.aload_n 0, 1) := by decide +kernel
theorem zd44_52 : decode zxm44.2.1 52 = .ok (.getfield 21, 3) := by decide +kernel
theorem zd44_55 : decode zxm44.2.1 55 = .ok (.aload_n 0, 1) := by decide +kernel
theorem zd44_56 : decode zxm44.2.1 56 = .ok (.getfield 15, 3) := by decide +kernel
theorem zd44_59 : decode zxm44.2.1 59 = .ok (.iaload, 1) := by decide +kernel
theorem zd44_60 : decode zxm44.2.1 60 = .ok (.bipush 37, 2) := by decide +kernel
theorem zd44_62 : decode zxm44.2.1 62 = .ok (.if_icmp .ne 72, 3) := by decide +kernel
theorem zd44_65 : decode zxm44.2.1 65 = .ok (.aload_n 0, 1) := by decide +kernel
theorem zd44_66 : decode zxm44.2.1 66 = .ok (.getfield 21, 3) := by decide +kernel
theorem zd44_69 : decode zxm44.2.1 69 = .ok (.aload_n 0, 1) := by decide +kernel
theorem zd44_70 : decode zxm44.2.1 70 = .ok (.getfield 15, 3) := by decide +kernel
theorem zd44_73 : decode zxm44.2.1 73 = .ok (.iaload, 1) := by decide +kernel
theorem zd44_74 : decode zxm44.2.1 74 = .ok (.bipush 42, 2) := by decide +kernel
theorem zd44_76 : decode zxm44.2.1 76 = .ok (.if_icmp .ne 8, 3) := by decide +kernel
theorem zd44_79 : decode zxm44.2.1 79 = .ok (.bipush 7, 2) := by decide +kernel
theorem zd44_81 : decode zxm44.2.1 81 = .ok (.goto 24, 3) := by decide +kernel
theorem zd44_84 : decode zxm44.2.1 84 = .ok (.aload_n 0, 1) := by decide +kernel
theorem zd44_85 : decode zxm44.2.1 85 = .ok (.getfield 21, 3) := by decide +kernel
theorem zd44_88 : decode zxm44.2.1 88 = .ok (.aload_n 0, 1) := by decide +kernel
theorem zd44_89 : decode zxm44.2.1 89 = .ok (.getfield 15, 3) := by decide +kernel
theorem zd44_92 : decode zxm44.2.1 92 = .ok (.iaload, 1) := by decide +kernel
theorem zd44_93 : decode zxm44.2.1 93 = .ok (.bipush 47, 2) := by decide +kernel
theorem zd44_95 : decode zxm44.2.1 95 = .ok (.if_icmp .ne 8, 3) := by decide +kernel
theorem zd44_98 : decode zxm44.2.1 98 = .ok (.bipush 8, 2) := by decide +kernel
theorem zd44_100 : decode zxm44.2.1 100 = .ok (.goto 5, 3) := by decide +kernel
theorem zd44_103 : decode zxm44.2.1 103 = .ok (.bipush 9, 2) := by decide +kernel
theorem zd44_105 : decode zxm44.2.1 105 = .ok (.istore_n 2, 1) := by decide +kernel
theorem zd44_106 : decode zxm44.2.1 106 = .ok (.aload_n 0, 1) := by decide +kernel
theorem zd44_107 : decode zxm44.2.1 107 = .ok (.dup, 1) := by decide +kernel
theorem zd44_108 : decode zxm44.2.1 108 = .ok (.getfield 15, 3) := by decide +kernel
theorem zd44_111 : decode zxm44.2.1 111 = .ok (.iconst 1, 1) := by decide +kernel
theorem zd44_112 : decode zxm44.2.1 112 = .ok (.iadd, 1) := by decide +kernel
theorem zd44_113 : decode zxm44.2.1 113 = .ok (.putfield 15, 3) := by decide +kernel
theorem zd44_116 : decode zxm44.2.1 116 = .ok (.aload_n 0, 1) := by decide +kernel
theorem zd44_117 : decode zxm44.2.1 117 = .ok (.iload_n 1, 1) := by decide +kernel
theorem zd44_118 : decode zxm44.2.1 118 = .ok (.invokevirtual 91, 3) := by decide +kernel
theorem zd44_121 : decode zxm44.2.1 121 = .ok (.aload_n 0, 1) := by decide +kernel
theorem zd44_122 : decode zxm44.2.1 122 = .ok (.getfield 25, 3) := by decide +kernel
theorem zd44_125 : decode zxm44.2.1 125 = .ok (.iload_n 2, 1) := by decide +kernel
theorem zd44_126 : decode zxm44.2.1 126 = .ok (.iconst 0, 1) := by decide +kernel
theorem zd44_127 : decode zxm44.2.1 127 = .ok (.invokevirtual 76, 3) := by decide +kernel
theorem zd44_130 : decode zxm44.2.1 130 = .ok (.pop, 1) := by decide +kernel
theorem zd44_131 : decode zxm44.2.1 131 = .ok (.goto (-126), 3) := by decide +kernel
theorem zd44_134 : decode zxm44.2.1 134 = .ok (.return_, 1) := by decide +kernel
theorem zts_LawReader_readTerm {dp : Nat} {rc : Nat → Int → Int → Int → Int → Int → (Int → Int) → (Int → Int) → (Int → Int) → Option (Int × Int × Int × (Int → Int) × (Int → Int))} (ih0 : ∀ (x1 : Int) (f0 : Int) (f1 : Int) (f2 : Int) (f4 : Int) (g0 : (Int → Int)) (g1 : (Int → Int)) (g2 : (Int → Int)) (o : Int × Int × Int × (Int → Int) × (Int → Int)), rc 0 x1 f0 f1 f2 f4 g0 g1 g2 = some o → zv_Fn z_TB z_cl z_KX zy_LawReader_readSum zxm43 (6 + dp, 60 * (6 + dp)) [.inr 0, .inl x1] [.inl f0, .inl f1, .inl f2, .inr 2, .inl f4] [g0, g1, g2] none [.inl o.1, .inl o.2.1, .inl f2, .inr 2, .inl o.2.2.1] [g0, o.2.2.2.1, o.2.2.2.2]) (ih1 : ∀ (x1 : Int) (f0 : Int) (f1 : Int) (f2 : Int) (f4 : Int) (g0 : (Int → Int)) (g1 : (Int → Int)) (g2 : (Int → Int)) (o : Int × Int × Int × (Int → Int) × (Int → Int)), rc 1 x1 f0 f1 f2 f4 g0 g1 g2 = some o → zv_Fn z_TB z_cl z_KX zy_LawReader_readSum zxm44 (6 + dp, 60 * (6 + dp)) [.inr 0, .inl x1] [.inl f0, .inl f1, .inl f2, .inr 2, .inl f4] [g0, g1, g2] none [.inl o.1, .inl o.2.1, .inl f2, .inr 2, .inl o.2.2.1] [g0, o.2.2.2.1, o.2.2.2.2]) (ih2 : ∀ (x1 : Int) (f0 : Int) (f1 : Int) (f2 : Int) (f4 : Int) (g0 : (Int → Int)) (g1 : (Int → Int)) (g2 : (Int → Int)) (o : Int × Int × Int × (Int → Int) × (Int → Int)), rc 2 x1 f0 f1 f2 f4 g0 g1 g2 = some o → zv_Fn z_TB z_cl z_KX zy_LawReader_readSum zxm45 (6 + dp, 60 * (6 + dp)) [.inr 0, .inl x1] [.inl f0, .inl f1, .inl f2, .inr 2, .inl f4] [g0, g1, g2] none [.inl o.1, .inl o.2.1, .inl f2, .inr 2, .inl o.2.2.1] [g0, o.2.2.2.1, o.2.2.2.2]) {x1 : Int} {f0 : Int} {f1 : Int} {f2 : Int} {f4 : Int} {g0 : (Int → Int)} {g1 : (Int → Int)} {g2 : (Int → Int)} {o : Int × Int × Int × (Int → Int) × (Int → Int)} (h : zm_LawReader_readTerm rc x1 f0 f1 f2 f4 g0 g1 g2 = some o) : zv_Fn z_TB z_cl z_KX zy_LawReader_readSum zxm44 (6 + (dp + 1), 60 * (6 + (dp + 1))) [.inr 0, .inl x1] [.inl f0, .inl f1, .inl f2, .inr 2, .inl f4] [g0, g1, g2] none [.inl o.1, .inl o.2.1, .inl f2, .inr 2, .inl o.2.2.1] [g0, o.2.2.2.1, o.2.2.2.2] := zv_meth (K := (z_KF3, z_KC3, z_KL3, z_KT3, [], [], [], none)) (FT := z_FT) (MT := z_MT) (n := 2) zxp44 (z_ks3 _ (fun _ h => List.mem_cons_of_mem _ h) _ _ _ _ (fun j r h _ => by cases h)) (fun _ _ => zs_KX_p) zyw_LawReader_readSum (fun va F G h => by obtain ⟨rfl, _⟩ := h; rfl) (fun va F G h => by obtain ⟨rfl, _⟩ := h; rfl) rfl fun good va F G hB hret hvret hP => by
  obtain ⟨rfl, rfl, rfl⟩ := hP
  have l0 : ∀ (n : Nat) (x1 : Int) (f0 : Int) (f1 : Int) (f4 : Int) (g1 : (Int → Int)) (g2 : (Int → Int)) (q : Int × Int × Int × (Int → Int) × (Int → Int)), zm_LawReader_readTerm_l0 rc x1 f2 g0 n f0 f1 f4 g1 g2 = some q → (good 134 [.inr 1000, .inr 1000, .inr 1000] [] [.inl q.1, .inl q.2.1, .inl f2, .inr 2, .inl q.2.2.1] [g0, q.2.2.2.1, q.2.2.2.2]) → good 5 [.inr 0, .inl x1, .inr 1000] [] [.inl f0, .inl f1, .inl f2, .inr 2, .inl f4] [g0, g1, g2] := by
    intro n
    induction n with
    | zero => intro x1 f0 f1 f4 g1 g2 q h; exact absurd (show none = some q from h) (fun h => by cases h)
    | succ n ih =>
      intro x1 f0 f1 f4 g1 g2 q h hK
      replace h : zm_LawReader_readTerm_l0_b rc x1 f2 g0 (zm_LawReader_readTerm_l0 rc x1 f2 g0 n) f0 f1 f4 g1 g2 = some q := h
      unfold zm_LawReader_readTerm_l0_b at h
      refine zv_ald hB zd44_5 rfl rfl rfl ?_
      refine zv_getf hB zd44_6 rfl rfl (fun _ _ => ?_)
      refine zv_zne hB zd44_9 rfl (fun hc2 => ?_) (fun hc2 => ?_)
      · rw [if_neg hc2] at h
        have hq := Option.some.inj h
        subst hq
        refine zv_wk hB (L' := [.inr 1000, .inr 1000, .inr 1000]) (F' := [.inl f0, .inl f1, .inl f2, .inr 2, .inl f4]) ⟨fun (h : zv_is (.inr 1000)) => (Nat.lt_irrefl 1000 h).elim, fun (h : zv_is (.inr 1000)) => (Nat.lt_irrefl 1000 h).elim, fun (h : zv_is (.inr 1000)) => (Nat.lt_irrefl 1000 h).elim, trivial⟩ ⟨fun _ => rfl, fun _ => rfl, fun _ => rfl, fun _ => rfl, fun _ => rfl, trivial⟩ ?_
        exact hK
      · rw [if_pos hc2] at h
        refine zv_ald hB zd44_12 rfl rfl rfl ?_
        refine zv_getf hB zd44_13 rfl rfl (fun _ _ => ?_)
        refine zv_ald hB zd44_16 rfl rfl rfl ?_
        refine zv_getf hB zd44_17 rfl rfl (fun _ _ => ?_)
        refine zv_cge hB zd44_20 rfl (fun hc3 => ?_) (fun hc3 => ?_)
        · rw [if_neg (Int.not_lt.mpr hc3)] at h
          have hq := Option.some.inj h
          subst hq
          refine zv_wk hB (L' := [.inr 1000, .inr 1000, .inr 1000]) (F' := [.inl f0, .inl f1, .inl f2, .inr 2, .inl f4]) ⟨fun (h : zv_is (.inr 1000)) => (Nat.lt_irrefl 1000 h).elim, fun (h : zv_is (.inr 1000)) => (Nat.lt_irrefl 1000 h).elim, fun (h : zv_is (.inr 1000)) => (Nat.lt_irrefl 1000 h).elim, trivial⟩ ⟨fun _ => rfl, fun _ => rfl, fun _ => rfl, fun _ => rfl, fun _ => rfl, trivial⟩ ?_
          exact hK
        · rw [if_pos hc3] at h
          refine zv_ald hB zd44_23 rfl rfl rfl ?_
          refine zv_getr hB zd44_24 rfl ?_
          refine zv_ald hB zd44_27 rfl rfl rfl ?_
          refine zv_getf hB zd44_28 rfl rfl (fun _ _ => ?_)
          obtain ⟨c4, h⟩ := zi_if h
          refine zv_iald hB zd44_31 rfl rfl (zi_ix_ok c4).1 (zi_ix_ok c4).2 (fun _ _ => ?_)
          refine zv_con hB zd44_32 rfl ?_
          refine zv_ceq hB zd44_34 rfl (fun hc5 => ?_) (fun hc5 => ?_)
          · rw [if_pos hc5] at h
            refine zv_ald hB zd44_65 rfl rfl rfl ?_
            refine zv_getr hB zd44_66 rfl ?_
            refine zv_ald hB zd44_69 rfl rfl rfl ?_
            refine zv_getf hB zd44_70 rfl rfl (fun _ _ => ?_)
            refine zv_iald hB zd44_73 rfl rfl (zi_ix_ok c4).1 (zi_ix_ok c4).2 (fun _ _ => ?_)
            refine zv_con hB zd44_74 rfl ?_
            refine zv_cne hB zd44_76 rfl (fun hc => absurd hc (by omega)) (fun _ => ?_)
            refine zv_con hB zd44_79 rfl ?_
            refine zv_goto hB zd44_81 rfl ?_
            refine zv_ist hB zd44_105 rfl rfl rfl ?_
            refine zv_ald hB zd44_106 rfl rfl rfl ?_
            refine zv_dup hB zd44_107 rfl ?_
            refine zv_getf hB zd44_108 rfl rfl (fun _ _ => ?_)
            refine zv_con hB zd44_111 rfl ?_
            refine zv_addw hB zd44_112 ?_
            refine zv_putf hB zd44_113 rfl rfl (fun h => by cases h) rfl ?_
            refine zv_ald hB zd44_116 rfl rfl rfl ?_
            refine zv_ild hB zd44_117 rfl rfl ?_
            obtain ⟨r7, hr7, h⟩ := zi_bind h
            refine zv_cv hB (show zv_Fn _ _ _ zy_LawReader_readSum _ _ [.inr 0, .inl x1] [.inl f0, .inl (zi_w (f1 + 1)), .inl f2, .inr 2, .inl f4] [g0, g1, g2] none [.inl r7.1, .inl r7.2.1, .inl f2, .inr 2, .inl r7.2.2.1] [g0, r7.2.2.2.1, r7.2.2.2.2] from ih2 _ _ _ _ _ _ _ _ r7 hr7) zd44_118 zxt45 rfl (by show 6 + dp + 1 ≤ 6 + (dp + 1); omega) (by show 8 + (4 + 11) + 60 * (6 + dp) ≤ 60 * (6 + (dp + 1)); omega) rfl ?_
            refine zv_ald hB zd44_121 rfl rfl rfl ?_
            refine zv_getq hB zd44_122 rfl rfl rfl ?_
            refine zv_ild hB zd44_125 rfl rfl ?_
            refine zv_con hB zd44_126 rfl ?_
            obtain ⟨r8, hr8, h⟩ := zi_bind h
            refine zv_cv hB (zv_emq (va2 := [.inr 2, .inl 7, .inl 0]) (F := [.inl r7.1, .inl r7.2.1, .inl f2, .inr 2, .inl r7.2.2.1]) (F' := [.inl r7.1, .inl r7.2.1, .inl f2, .inr 2, .inl r8.2.1]) (G := [g0, r7.2.2.2.1, r7.2.2.2.2]) (G' := [g0, r8.2.2.1, r8.2.2.2]) (ρ := [2, 3, 4]) (φ := [4]) (ψ := [1, 2]) [none, none, none, none, some 0] [none, some 0, some 1] zyw_Law_addStep zyw_LawReader_readSum zye_LawReader_readSum (by decide +kernel) (zt_Law_addStep hr8) ⟨⟨_, rfl, fun _ => rfl⟩, trivial⟩ ⟨rfl, rfl, trivial⟩ rfl rfl rfl rfl rfl rfl rfl) zd44_127 zxt49 rfl (by show 0 + 1 ≤ 6 + (dp + 1); omega) (by show 8 + (3 + 11) + 60 * (0) ≤ 60 * (6 + (dp + 1)); omega) rfl ?_
            refine zv_pop hB zd44_130 rfl ?_
            refine zv_goto hB zd44_131 rfl ?_
            refine zv_wk hB (L' := [.inr 0, .inl x1, .inr 1000]) (F' := [.inl r7.1, .inl r7.2.1, .inl f2, .inr 2, .inl r8.2.1]) ⟨fun _ => rfl, fun _ => rfl, fun (h : zv_is (.inr 1000)) => (Nat.lt_irrefl 1000 h).elim, trivial⟩ ⟨fun _ => rfl, fun _ => rfl, fun _ => rfl, fun _ => rfl, fun _ => rfl, trivial⟩ ?_
            exact ih _ _ _ _ _ _ q h hK
          · rw [if_neg hc5] at h
            refine zv_ald hB zd44_37 rfl rfl rfl ?_
            refine zv_getr hB zd44_38 rfl ?_
            refine zv_ald hB zd44_41 rfl rfl rfl ?_
            refine zv_getf hB zd44_42 rfl rfl (fun _ _ => ?_)
            refine zv_iald hB zd44_45 rfl rfl (zi_ix_ok c4).1 (zi_ix_ok c4).2 (fun _ _ => ?_)
            refine zv_con hB zd44_46 rfl ?_
            refine zv_ceq hB zd44_48 rfl (fun hc9 => ?_) (fun hc9 => ?_)
            · rw [if_pos hc9] at h
              refine zv_ald hB zd44_65 rfl rfl rfl ?_
              refine zv_getr hB zd44_66 rfl ?_
              refine zv_ald hB zd44_69 rfl rfl rfl ?_
              refine zv_getf hB zd44_70 rfl rfl (fun _ _ => ?_)
              refine zv_iald hB zd44_73 rfl rfl (zi_ix_ok c4).1 (zi_ix_ok c4).2 (fun _ _ => ?_)
              refine zv_con hB zd44_74 rfl ?_
              refine zv_cne hB zd44_76 rfl (fun _ => ?_) (fun hc => absurd hc (by omega))
              refine zv_ald hB zd44_84 rfl rfl rfl ?_
              refine zv_getr hB zd44_85 rfl ?_
              refine zv_ald hB zd44_88 rfl rfl rfl ?_
              refine zv_getf hB zd44_89 rfl rfl (fun _ _ => ?_)
              refine zv_iald hB zd44_92 rfl rfl (zi_ix_ok c4).1 (zi_ix_ok c4).2 (fun _ _ => ?_)
              refine zv_con hB zd44_93 rfl ?_
              refine zv_cne hB zd44_95 rfl (fun hc => absurd hc (by omega)) (fun _ => ?_)
              refine zv_con hB zd44_98 rfl ?_
              refine zv_goto hB zd44_100 rfl ?_
              refine zv_ist hB zd44_105 rfl rfl rfl ?_
              refine zv_ald hB zd44_106 rfl rfl rfl ?_
              refine zv_dup hB zd44_107 rfl ?_
              refine zv_getf hB zd44_108 rfl rfl (fun _ _ => ?_)
              refine zv_con hB zd44_111 rfl ?_
              refine zv_addw hB zd44_112 ?_
              refine zv_putf hB zd44_113 rfl rfl (fun h => by cases h) rfl ?_
              refine zv_ald hB zd44_116 rfl rfl rfl ?_
              refine zv_ild hB zd44_117 rfl rfl ?_
              obtain ⟨r12, hr12, h⟩ := zi_bind h
              refine zv_cv hB (show zv_Fn _ _ _ zy_LawReader_readSum _ _ [.inr 0, .inl x1] [.inl f0, .inl (zi_w (f1 + 1)), .inl f2, .inr 2, .inl f4] [g0, g1, g2] none [.inl r12.1, .inl r12.2.1, .inl f2, .inr 2, .inl r12.2.2.1] [g0, r12.2.2.2.1, r12.2.2.2.2] from ih2 _ _ _ _ _ _ _ _ r12 hr12) zd44_118 zxt45 rfl (by show 6 + dp + 1 ≤ 6 + (dp + 1); omega) (by show 8 + (4 + 11) + 60 * (6 + dp) ≤ 60 * (6 + (dp + 1)); omega) rfl ?_
              refine zv_ald hB zd44_121 rfl rfl rfl ?_
              refine zv_getq hB zd44_122 rfl rfl rfl ?_
              refine zv_ild hB zd44_125 rfl rfl ?_
              refine zv_con hB zd44_126 rfl ?_
              obtain ⟨r13, hr13, h⟩ := zi_bind h
              refine zv_cv hB (zv_emq (va2 := [.inr 2, .inl 8, .inl 0]) (F := [.inl r12.1, .inl r12.2.1, .inl f2, .inr 2, .inl r12.2.2.1]) (F' := [.inl r12.1, .inl r12.2.1, .inl f2, .inr 2, .inl r13.2.1]) (G := [g0, r12.2.2.2.1, r12.2.2.2.2]) (G' := [g0, r13.2.2.1, r13.2.2.2]) (ρ := [2, 3, 4]) (φ := [4]) (ψ := [1, 2]) [none, none, none, none, some 0] [none, some 0, some 1] zyw_Law_addStep zyw_LawReader_readSum zye_LawReader_readSum (by decide +kernel) (zt_Law_addStep hr13) ⟨⟨_, rfl, fun _ => rfl⟩, trivial⟩ ⟨rfl, rfl, trivial⟩ rfl rfl rfl rfl rfl rfl rfl) zd44_127 zxt49 rfl (by show 0 + 1 ≤ 6 + (dp + 1); omega) (by show 8 + (3 + 11) + 60 * (0) ≤ 60 * (6 + (dp + 1)); omega) rfl ?_
              refine zv_pop hB zd44_130 rfl ?_
              refine zv_goto hB zd44_131 rfl ?_
              refine zv_wk hB (L' := [.inr 0, .inl x1, .inr 1000]) (F' := [.inl r12.1, .inl r12.2.1, .inl f2, .inr 2, .inl r13.2.1]) ⟨fun _ => rfl, fun _ => rfl, fun (h : zv_is (.inr 1000)) => (Nat.lt_irrefl 1000 h).elim, trivial⟩ ⟨fun _ => rfl, fun _ => rfl, fun _ => rfl, fun _ => rfl, fun _ => rfl, trivial⟩ ?_
              exact ih _ _ _ _ _ _ q h hK
            · rw [if_neg hc9] at h
              refine zv_ald hB zd44_51 rfl rfl rfl ?_
              refine zv_getr hB zd44_52 rfl ?_
              refine zv_ald hB zd44_55 rfl rfl rfl ?_
              refine zv_getf hB zd44_56 rfl rfl (fun _ _ => ?_)
              refine zv_iald hB zd44_59 rfl rfl (zi_ix_ok c4).1 (zi_ix_ok c4).2 (fun _ _ => ?_)
              refine zv_con hB zd44_60 rfl ?_
              refine zv_cne hB zd44_62 rfl (fun hc14 => ?_) (fun hc14 => ?_)
              · rw [if_neg hc14] at h
                have hq := Option.some.inj h
                subst hq
                refine zv_wk hB (L' := [.inr 1000, .inr 1000, .inr 1000]) (F' := [.inl f0, .inl f1, .inl f2, .inr 2, .inl f4]) ⟨fun (h : zv_is (.inr 1000)) => (Nat.lt_irrefl 1000 h).elim, fun (h : zv_is (.inr 1000)) => (Nat.lt_irrefl 1000 h).elim, fun (h : zv_is (.inr 1000)) => (Nat.lt_irrefl 1000 h).elim, trivial⟩ ⟨fun _ => rfl, fun _ => rfl, fun _ => rfl, fun _ => rfl, fun _ => rfl, trivial⟩ ?_
                exact hK
              · rw [if_pos hc14] at h
                refine zv_ald hB zd44_65 rfl rfl rfl ?_
                refine zv_getr hB zd44_66 rfl ?_
                refine zv_ald hB zd44_69 rfl rfl rfl ?_
                refine zv_getf hB zd44_70 rfl rfl (fun _ _ => ?_)
                refine zv_iald hB zd44_73 rfl rfl (zi_ix_ok c4).1 (zi_ix_ok c4).2 (fun _ _ => ?_)
                refine zv_con hB zd44_74 rfl ?_
                refine zv_cne hB zd44_76 rfl (fun _ => ?_) (fun hc => absurd hc (by omega))
                refine zv_ald hB zd44_84 rfl rfl rfl ?_
                refine zv_getr hB zd44_85 rfl ?_
                refine zv_ald hB zd44_88 rfl rfl rfl ?_
                refine zv_getf hB zd44_89 rfl rfl (fun _ _ => ?_)
                refine zv_iald hB zd44_92 rfl rfl (zi_ix_ok c4).1 (zi_ix_ok c4).2 (fun _ _ => ?_)
                refine zv_con hB zd44_93 rfl ?_
                refine zv_cne hB zd44_95 rfl (fun _ => ?_) (fun hc => absurd hc (by omega))
                refine zv_con hB zd44_103 rfl ?_
                refine zv_ist hB zd44_105 rfl rfl rfl ?_
                refine zv_ald hB zd44_106 rfl rfl rfl ?_
                refine zv_dup hB zd44_107 rfl ?_
                refine zv_getf hB zd44_108 rfl rfl (fun _ _ => ?_)
                refine zv_con hB zd44_111 rfl ?_
                refine zv_addw hB zd44_112 ?_
                refine zv_putf hB zd44_113 rfl rfl (fun h => by cases h) rfl ?_
                refine zv_ald hB zd44_116 rfl rfl rfl ?_
                refine zv_ild hB zd44_117 rfl rfl ?_
                obtain ⟨r17, hr17, h⟩ := zi_bind h
                refine zv_cv hB (show zv_Fn _ _ _ zy_LawReader_readSum _ _ [.inr 0, .inl x1] [.inl f0, .inl (zi_w (f1 + 1)), .inl f2, .inr 2, .inl f4] [g0, g1, g2] none [.inl r17.1, .inl r17.2.1, .inl f2, .inr 2, .inl r17.2.2.1] [g0, r17.2.2.2.1, r17.2.2.2.2] from ih2 _ _ _ _ _ _ _ _ r17 hr17) zd44_118 zxt45 rfl (by show 6 + dp + 1 ≤ 6 + (dp + 1); omega) (by show 8 + (4 + 11) + 60 * (6 + dp) ≤ 60 * (6 + (dp + 1)); omega) rfl ?_
                refine zv_ald hB zd44_121 rfl rfl rfl ?_
                refine zv_getq hB zd44_122 rfl rfl rfl ?_
                refine zv_ild hB zd44_125 rfl rfl ?_
                refine zv_con hB zd44_126 rfl ?_
                obtain ⟨r18, hr18, h⟩ := zi_bind h
                refine zv_cv hB (zv_emq (va2 := [.inr 2, .inl 9, .inl 0]) (F := [.inl r17.1, .inl r17.2.1, .inl f2, .inr 2, .inl r17.2.2.1]) (F' := [.inl r17.1, .inl r17.2.1, .inl f2, .inr 2, .inl r18.2.1]) (G := [g0, r17.2.2.2.1, r17.2.2.2.2]) (G' := [g0, r18.2.2.1, r18.2.2.2]) (ρ := [2, 3, 4]) (φ := [4]) (ψ := [1, 2]) [none, none, none, none, some 0] [none, some 0, some 1] zyw_Law_addStep zyw_LawReader_readSum zye_LawReader_readSum (by decide +kernel) (zt_Law_addStep hr18) ⟨⟨_, rfl, fun _ => rfl⟩, trivial⟩ ⟨rfl, rfl, trivial⟩ rfl rfl rfl rfl rfl rfl rfl) zd44_127 zxt49 rfl (by show 0 + 1 ≤ 6 + (dp + 1); omega) (by show 8 + (3 + 11) + 60 * (0) ≤ 60 * (6 + (dp + 1)); omega) rfl ?_
                refine zv_pop hB zd44_130 rfl ?_
                refine zv_goto hB zd44_131 rfl ?_
                refine zv_wk hB (L' := [.inr 0, .inl x1, .inr 1000]) (F' := [.inl r17.1, .inl r17.2.1, .inl f2, .inr 2, .inl r18.2.1]) ⟨fun _ => rfl, fun _ => rfl, fun (h : zv_is (.inr 1000)) => (Nat.lt_irrefl 1000 h).elim, trivial⟩ ⟨fun _ => rfl, fun _ => rfl, fun _ => rfl, fun _ => rfl, fun _ => rfl, trivial⟩ ?_
                exact ih _ _ _ _ _ _ q h hK
  unfold zm_LawReader_readTerm at h
  refine zv_ald hB zd44_0 rfl rfl rfl ?_
  refine zv_ild hB zd44_1 rfl rfl ?_
  obtain ⟨r1, hr1, h⟩ := zi_bind h
  refine zv_cv hB (show zv_Fn _ _ _ zy_LawReader_readSum _ _ [.inr 0, .inl x1] [.inl f0, .inl f1, .inl f2, .inr 2, .inl f4] [g0, g1, g2] none [.inl r1.1, .inl r1.2.1, .inl f2, .inr 2, .inl r1.2.2.1] [g0, r1.2.2.2.1, r1.2.2.2.2] from ih2 _ _ _ _ _ _ _ _ r1 hr1) zd44_2 zxt45 rfl (by show 6 + dp + 1 ≤ 6 + (dp + 1); omega) (by show 8 + (4 + 11) + 60 * (6 + dp) ≤ 60 * (6 + (dp + 1)); omega) rfl ?_
  obtain ⟨q19, hq19, h⟩ := zi_bind h
  refine l0 _ _ _ _ _ _ _ q19 hq19 ?_
  show good 134 [.inr 1000, .inr 1000, .inr 1000] [] [.inl q19.1, .inl q19.2.1, .inl f2, .inr 2, .inl q19.2.2.1] [g0, q19.2.2.2.1, q19.2.2.2.2]
  have hw := Option.some.inj h
  subst hw
  exact hvret _ _ _ _ zd44_134 trivial ⟨rfl, rfl, rfl⟩
/-! LawReader_readFactor (I)V -/
def zm_LawReader_readFactor (rc : Nat → Int → Int → Int → Int → Int → (Int → Int) → (Int → Int) → (Int → Int) → Option (Int × Int × Int × (Int → Int) × (Int → Int))) (x1 : Int) (f0 : Int) (f1 : Int) (f2 : Int) (f4 : Int) (g0 : (Int → Int)) (g1 : (Int → Int)) (g2 : (Int → Int)) : Option (Int × Int × Int × (Int → Int) × (Int → Int)) := if f0 = 0 then ((zf_LawReader_peek f1 f2 g0).bind fun r2 => (if r2 = 91 then (if x1 < 6 then ((rc 0 (zi_w (x1 + 1)) f0 (zi_w (f1 + 1)) f2 f4 g0 g1 g2).bind fun r14 => ((zf_LawReader_skip 93 r14.1 r14.2.1 f2 g0).bind fun r15 => (some (r15.1, r15.2, r14.2.2.1, r14.2.2.2.1, r14.2.2.2.2)))) else ((zf_LawReader_fail 5 f0 f1).bind fun r16 => (some (r16, f1, f4, g1, g2)))) else ((zf_LawReader_isDigit r2).bind fun r4 => (if r4 = 0 then (if r2 = (-1) then ((zf_LawReader_fail 1 f0 f1).bind fun r11 => (some (r11, f1, f4, g1, g2))) else (if (zi_letter (zi_ch r2)) = (-1) then ((zf_LawReader_fail 1 f0 f1).bind fun r9 => (some (r9, f1, f4, g1, g2))) else ((zf_Law_addStep 1 (zi_letter (zi_ch r2)) f4 g1 g2).bind fun r8 => (some (f0, (zi_w (f1 + 1)), r8.2.1, r8.2.2.1, r8.2.2.2))))) else ((zf_LawReader_readNumber f1 f2 f4 f0 g0 g1 g2).bind fun r12 => (some (r12.2.2.1, r12.1, r12.2.1, r12.2.2.2.1, r12.2.2.2.2))))))) else (some (f0, f1, f4, g1, g2))
theorem zd45_0 : decode zxm45.2.1 0 = .ok (.aload_n 0, 1) := by decide +kernel
theorem zd45_1 : decode zxm45.2.1 1 = .ok (.getfield 18, 3) := by decide +kernel
theorem zd45_4 : decode zxm45.2.1 4 = .ok (.ifCond .eq 4, 3) := by decide +kernel
theorem zd45_7 : decode zxm45.2.1 7 = .ok (.return_, 1) := by decide +kernel
theorem zd45_8 : decode zxm45.2.1 8 = .ok (.aload_n 0, 1) := by decide +kernel
theorem zd45_9 : decode zxm45.2.1 9 = .ok (.invokevirtual 53, 3) := by decide +kernel
theorem zd45_12 : decode zxm45.2.1 12 = .ok (.istore_n 2, 1) := by decide +kernel
theorem zd45_13 : decode zxm45.2.1 13 = .ok (.iload_n 2, 1) := by decide +kernel
theorem zd45_14 : decode zxm45.2.1 14 = .ok (.bipush 91, 2) := by decide +kernel
theorem zd45_16 : decode zxm45.2.1 16 = .ok (.if_icmp .ne 41, 3) := by decide +kernel
theorem zd45_19 : decode zxm45.2.1 19 = .ok (.iload_n 1, 1) := by decide +kernel
theorem zd45_20 : decode zxm45.2.1 20 = .ok (.bipush 6, 2) := by decide +kernel
theorem zd45_22 : decode zxm45.2.1 22 = .ok (.if_icmp .lt 9, 3) := by decide +kernel
theorem zd45_25 : decode zxm45.2.1 25 = .ok (.aload_n 0, 1) := by decide +kernel
theorem zd45_26 : decode zxm45.2.1 26 = .ok (.iconst 5, 1) := by decide +kernel
theorem zd45_27 : decode zxm45.2.1 27 = .ok (.invokevirtual 57, 3) := by decide +kernel
theorem zd45_30 : decode zxm45.2.1 30 = .ok (.return_, 1) := by decide +kernel
theorem zd45_31 : decode zxm45.2.1 31 = .ok (.aload_n 0, 1) := by decide +kernel
theorem zd45_32 : decode zxm45.2.1 32 = .ok (.dup, 1) := by decide +kernel
theorem zd45_33 : decode zxm45.2.1 33 = .ok (.getfield 15, 3) := by decide +kernel
theorem zd45_36 : decode zxm45.2.1 36 = .ok (.iconst 1, 1) := by decide +kernel
theorem zd45_37 : decode zxm45.2.1 37 = .ok (.iadd, 1) := by decide +kernel
theorem zd45_38 : decode zxm45.2.1 38 = .ok (.putfield 15, 3) := by decide +kernel
theorem zd45_41 : decode zxm45.2.1 41 = .ok (.aload_n 0, 1) := by decide +kernel
theorem zd45_42 : decode zxm45.2.1 42 = .ok (.iload_n 1, 1) := by decide +kernel
theorem zd45_43 : decode zxm45.2.1 43 = .ok (.iconst 1, 1) := by decide +kernel
theorem zd45_44 : decode zxm45.2.1 44 = .ok (.iadd, 1) := by decide +kernel
theorem zd45_45 : decode zxm45.2.1 45 = .ok (.invokevirtual 63, 3) := by decide +kernel
theorem zd45_48 : decode zxm45.2.1 48 = .ok (.aload_n 0, 1) := by decide +kernel
theorem zd45_49 : decode zxm45.2.1 49 = .ok (.bipush 93, 2) := by decide +kernel
theorem zd45_51 : decode zxm45.2.1 51 = .ok (.invokevirtual 43, 3) := by decide +kernel
theorem zd45_54 : decode zxm45.2.1 54 = .ok (.goto 65, 3) := by decide +kernel
theorem zd45_57 : decode zxm45.2.1 57 = .ok (.iload_n 2, 1) := by decide +kernel
theorem zd45_58 : decode zxm45.2.1 58 = .ok (.invokestatic 94, 3) := by decide +kernel
theorem zd45_61 : decode zxm45.2.1 61 = .ok (.ifCond .eq 10, 3) := by decide +kernel
theorem zd45_64 : decode zxm45.2.1 64 = .ok (.aload_n 0, 1) := by decide +kernel
theorem zd45_65 : decode zxm45.2.1 65 = .ok (.invokevirtual 98, 3) := by decide +kernel
theorem zd45_68 : decode zxm45.2.1 68 = .ok (.goto 51, 3) := by decide +kernel
theorem zd45_71 : decode zxm45.2.1 71 = .ok (.iload_n 2, 1) := by decide +kernel
theorem zd45_72 : decode zxm45.2.1 72 = .ok (.iconst (-1), 1) := by decide +kernel
theorem zd45_73 : decode zxm45.2.1 73 = .ok (.if_icmp .ne 7, 3) := by decide +kernel
theorem zd45_76 : decode zxm45.2.1 76 = .ok (.iconst (-1), 1) := by decide +kernel
theorem zd45_77 : decode zxm45.2.1 77 = .ok (.goto 10, 3) := by decide +kernel
theorem zd45_80 : decode zxm45.2.1 80 = .ok (.ldc 101, 2) := by decide +kernel
theorem zd45_82 : decode zxm45.2.1 82 = .ok (.iload_n 2, 1) := by decide +kernel
theorem zd45_83 : decode zxm45.2.1 83 = .ok (.i2c, 1) := by decide +kernel
theorem zd45_84 : decode zxm45.2.1 84 = .ok (.invokevirtual 103, 3) := by decide +kernel
theorem zd45_87 : decode zxm45.2.1 87 = .ok (.istore_n 3, 1) := by decide +kernel
theorem zd45_88 : decode zxm45.2.1 88 = .ok (.iload_n 3, 1) := by decide +kernel
theorem zd45_89 : decode zxm45.2.1 89 = .ok (.iconst (-1), 1) := by decide +kernel
theorem zd45_90 : decode zxm45.2.1 90 = .ok (.if_icmp .ne 9, 3) := by decide +kernel
theorem zd45_93 : decode zxm45.2.1 93 = .ok (.aload_n 0, 1) := by decide +kernel
theorem zd45_94 : decode zxm45.2.1 94 = .ok (.iconst 1, 1) := by decide +kernel
theorem zd45_95 : decode zxm45.2.1 95 = .ok (.invokevirtual 57, 3) := by decide +kernel
theorem zd45_98 : decode zxm45.2.1 98 = .ok (.return_, 1) := by decide +kernel
theorem zd45_99 : decode zxm45.2.1 99 = .ok (.aload_n 0, 1) := by decide +kernel
theorem zd45_100 : decode zxm45.2.1 100 = .ok (.dup, 1) := by decide +kernel
theorem zd45_101 : decode zxm45.2.1 101 = .ok (.getfield 15, 3) := by decide +kernel
theorem zd45_104 : decode zxm45.2.1 104 = .ok (.iconst 1, 1) := by decide +kernel
theorem zd45_105 : decode zxm45.2.1 105 = .ok (.iadd, 1) := by decide +kernel
theorem zd45_106 : decode zxm45.2.1 106 = .ok (.putfield 15, 3) := by decide +kernel
theorem zd45_109 : decode zxm45.2.1 109 = .ok (.aload_n 0, 1) := by decide +kernel
theorem zd45_110 : decode zxm45.2.1 110 = .ok (.getfield 25, 3) := by decide +kernel
theorem zd45_113 : decode zxm45.2.1 113 = .ok (.iconst 1, 1) := by decide +kernel
theorem zd45_114 : decode zxm45.2.1 114 = .ok (.iload_n 3, 1) := by decide +kernel
theorem zd45_115 : decode zxm45.2.1 115 = .ok (.invokevirtual 76, 3) := by decide +kernel
theorem zd45_118 : decode zxm45.2.1 118 = .ok (.pop, 1) := by decide +kernel
theorem zd45_119 : decode zxm45.2.1 119 = .ok (.return_, 1) := by decide +kernel
theorem zts_LawReader_readFactor {dp : Nat} {rc : Nat → Int → Int → Int → Int → Int → (Int → Int) → (Int → Int) → (Int → Int) → Option (Int × Int × Int × (Int → Int) × (Int → Int))} (ih0 : ∀ (x1 : Int) (f0 : Int) (f1 : Int) (f2 : Int) (f4 : Int) (g0 : (Int → Int)) (g1 : (Int → Int)) (g2 : (Int → Int)) (o : Int × Int × Int × (Int → Int) × (Int → Int)), rc 0 x1 f0 f1 f2 f4 g0 g1 g2 = some o → zv_Fn z_TB z_cl z_KX zy_LawReader_readSum zxm43 (6 + dp, 60 * (6 + dp)) [.inr 0, .inl x1] [.inl f0, .inl f1, .inl f2, .inr 2, .inl f4] [g0, g1, g2] none [.inl o.1, .inl o.2.1, .inl f2, .inr 2, .inl o.2.2.1] [g0, o.2.2.2.1, o.2.2.2.2]) (ih1 : ∀ (x1 : Int) (f0 : Int) (f1 : Int) (f2 : Int) (f4 : Int) (g0 : (Int → Int)) (g1 : (Int → Int)) (g2 : (Int → Int)) (o : Int × Int × Int × (Int → Int) × (Int → Int)), rc 1 x1 f0 f1 f2 f4 g0 g1 g2 = some o → zv_Fn z_TB z_cl z_KX zy_LawReader_readSum zxm44 (6 + dp, 60 * (6 + dp)) [.inr 0, .inl x1] [.inl f0, .inl f1, .inl f2, .inr 2, .inl f4] [g0, g1, g2] none [.inl o.1, .inl o.2.1, .inl f2, .inr 2, .inl o.2.2.1] [g0, o.2.2.2.1, o.2.2.2.2]) (ih2 : ∀ (x1 : Int) (f0 : Int) (f1 : Int) (f2 : Int) (f4 : Int) (g0 : (Int → Int)) (g1 : (Int → Int)) (g2 : (Int → Int)) (o : Int × Int × Int × (Int → Int) × (Int → Int)), rc 2 x1 f0 f1 f2 f4 g0 g1 g2 = some o → zv_Fn z_TB z_cl z_KX zy_LawReader_readSum zxm45 (6 + dp, 60 * (6 + dp)) [.inr 0, .inl x1] [.inl f0, .inl f1, .inl f2, .inr 2, .inl f4] [g0, g1, g2] none [.inl o.1, .inl o.2.1, .inl f2, .inr 2, .inl o.2.2.1] [g0, o.2.2.2.1, o.2.2.2.2]) {x1 : Int} {f0 : Int} {f1 : Int} {f2 : Int} {f4 : Int} {g0 : (Int → Int)} {g1 : (Int → Int)} {g2 : (Int → Int)} {o : Int × Int × Int × (Int → Int) × (Int → Int)} (h : zm_LawReader_readFactor rc x1 f0 f1 f2 f4 g0 g1 g2 = some o) : zv_Fn z_TB z_cl z_KX zy_LawReader_readSum zxm45 (6 + (dp + 1), 60 * (6 + (dp + 1))) [.inr 0, .inl x1] [.inl f0, .inl f1, .inl f2, .inr 2, .inl f4] [g0, g1, g2] none [.inl o.1, .inl o.2.1, .inl f2, .inr 2, .inl o.2.2.1] [g0, o.2.2.2.1, o.2.2.2.2] := zv_meth (K := (z_KF3, z_KC3, z_KL3, z_KT3, [], [], [], none)) (FT := z_FT) (MT := z_MT) (n := 2) zxp45 (z_ks3 _ (fun _ h => List.mem_cons_of_mem _ h) _ _ _ _ (fun j r h _ => by cases h)) (fun _ _ => zs_KX_p) zyw_LawReader_readSum (fun va F G h => by obtain ⟨rfl, _⟩ := h; rfl) (fun va F G h => by obtain ⟨rfl, _⟩ := h; rfl) rfl fun good va F G hB hret hvret hP => by
  obtain ⟨rfl, rfl, rfl⟩ := hP
  unfold zm_LawReader_readFactor at h
  refine zv_ald hB zd45_0 rfl rfl rfl ?_
  refine zv_getf hB zd45_1 rfl rfl (fun _ _ => ?_)
  refine zv_zeq hB zd45_4 rfl (fun hc1 => ?_) (fun hc1 => ?_)
  · rw [if_pos hc1] at h
    refine zv_ald hB zd45_8 rfl rfl rfl ?_
    obtain ⟨r2, hr2, h⟩ := zi_bind h
    refine zv_cv hB (zv_emq (va2 := [.inr 0]) (F := [.inl f0, .inl f1, .inl f2, .inr 2, .inl f4]) (F' := [.inl f0, .inl f1, .inl f2, .inr 2, .inl f4]) (G := [g0, g1, g2]) (G' := [g0, g1, g2]) (ρ := [0, 1]) (φ := [1, 2]) (ψ := [0]) [none, some 0, some 1, none, none] [some 0, none, none] zyw_LawReader_peek zyw_LawReader_readSum zye_LawReader_readSum (by decide +kernel) (zt_LawReader_peek hr2) ⟨⟨_, rfl, fun _ => rfl⟩, ⟨_, rfl, fun _ => rfl⟩, trivial⟩ ⟨rfl, trivial⟩ rfl rfl rfl rfl rfl rfl rfl) zd45_9 zxt40 rfl (by show 0 + 1 ≤ 6 + (dp + 1); omega) (by show 8 + (1 + 11) + 60 * (0) ≤ 60 * (6 + (dp + 1)); omega) rfl ?_
    refine zv_ist hB zd45_12 rfl rfl rfl ?_
    refine zv_ild hB zd45_13 rfl rfl ?_
    refine zv_con hB zd45_14 rfl ?_
    refine zv_cne hB zd45_16 rfl (fun hc3 => ?_) (fun hc3 => ?_)
    · rw [if_neg hc3] at h
      refine zv_ild hB zd45_57 rfl rfl ?_
      obtain ⟨r4, hr4, h⟩ := zi_bind h
      refine zv_cs hB (zv_emq (va2 := [.inl r2]) (F := [.inl f0, .inl f1, .inl f2, .inr 2, .inl f4]) (F' := [.inl f0, .inl f1, .inl f2, .inr 2, .inl f4]) (G := [g0, g1, g2]) (G' := [g0, g1, g2]) (ρ := []) (φ := []) (ψ := []) [none, none, none, none, none] [none, none, none] zyw_LawReader_isDigit zyw_LawReader_readSum zye_LawReader_readSum (by decide +kernel) (zt_LawReader_isDigit hr4) trivial trivial rfl rfl rfl rfl rfl rfl rfl) zd45_58 zxt47 rfl (by show 0 + 1 ≤ 6 + (dp + 1); omega) (by show 8 + (1 + 11) + 60 * (0) ≤ 60 * (6 + (dp + 1)); omega) rfl ?_
      refine zv_zeq hB zd45_61 rfl (fun hc5 => ?_) (fun hc5 => ?_)
      · rw [if_pos hc5] at h
        refine zv_ild hB zd45_71 rfl rfl ?_
        refine zv_con hB zd45_72 rfl ?_
        refine zv_cne hB zd45_73 rfl (fun hc6 => ?_) (fun hc6 => ?_)
        · rw [if_neg hc6] at h
          refine zv_ldcs hB zd45_80 ?_
          refine zv_ild hB zd45_82 rfl rfl ?_
          refine zv_i2c hB zd45_83 ?_
          refine zv_letter hB zyw_LawReader_readSum rfl rfl zd45_84 (by show 6 ≤ 6 + (dp + 1); omega) (by show 360 ≤ 60 * (6 + (dp + 1)); omega) ?_
          refine zv_ist hB zd45_87 rfl rfl rfl ?_
          refine zv_ild hB zd45_88 rfl rfl ?_
          refine zv_con hB zd45_89 rfl ?_
          refine zv_cne hB zd45_90 rfl (fun hc7 => ?_) (fun hc7 => ?_)
          · rw [if_neg hc7] at h
            refine zv_ald hB zd45_99 rfl rfl rfl ?_
            refine zv_dup hB zd45_100 rfl ?_
            refine zv_getf hB zd45_101 rfl rfl (fun _ _ => ?_)
            refine zv_con hB zd45_104 rfl ?_
            refine zv_addw hB zd45_105 ?_
            refine zv_putf hB zd45_106 rfl rfl (fun h => by cases h) rfl ?_
            refine zv_ald hB zd45_109 rfl rfl rfl ?_
            refine zv_getq hB zd45_110 rfl rfl rfl ?_
            refine zv_con hB zd45_113 rfl ?_
            refine zv_ild hB zd45_114 rfl rfl ?_
            obtain ⟨r8, hr8, h⟩ := zi_bind h
            refine zv_cv hB (zv_emq (va2 := [.inr 2, .inl 1, .inl (zi_letter (zi_ch r2))]) (F := [.inl f0, .inl (zi_w (f1 + 1)), .inl f2, .inr 2, .inl f4]) (F' := [.inl f0, .inl (zi_w (f1 + 1)), .inl f2, .inr 2, .inl r8.2.1]) (G := [g0, g1, g2]) (G' := [g0, r8.2.2.1, r8.2.2.2]) (ρ := [2, 3, 4]) (φ := [4]) (ψ := [1, 2]) [none, none, none, none, some 0] [none, some 0, some 1] zyw_Law_addStep zyw_LawReader_readSum zye_LawReader_readSum (by decide +kernel) (zt_Law_addStep hr8) ⟨⟨_, rfl, fun _ => rfl⟩, trivial⟩ ⟨rfl, rfl, trivial⟩ rfl rfl rfl rfl rfl rfl rfl) zd45_115 zxt49 rfl (by show 0 + 1 ≤ 6 + (dp + 1); omega) (by show 8 + (3 + 11) + 60 * (0) ≤ 60 * (6 + (dp + 1)); omega) rfl ?_
            refine zv_pop hB zd45_118 rfl ?_
            have hw := Option.some.inj h
            subst hw
            exact hvret _ _ _ _ zd45_119 trivial ⟨rfl, rfl, rfl⟩
          · rw [if_pos hc7] at h
            refine zv_ald hB zd45_93 rfl rfl rfl ?_
            refine zv_con hB zd45_94 rfl ?_
            obtain ⟨r9, hr9, h⟩ := zi_bind h
            refine zv_cv hB (zv_emq (va2 := [.inr 0, .inl 1]) (F := [.inl f0, .inl f1, .inl f2, .inr 2, .inl f4]) (F' := [.inl r9, .inl f1, .inl f2, .inr 2, .inl f4]) (G := [g0, g1, g2]) (G' := [g0, g1, g2]) (ρ := [0]) (φ := [0, 1]) (ψ := []) [some 0, some 1, none, none, none] [none, none, none] zyw_LawReader_fail zyw_LawReader_readSum zye_LawReader_readSum (by decide +kernel) (zt_LawReader_fail hr9) ⟨⟨_, rfl, fun _ => rfl⟩, ⟨_, rfl, fun _ => rfl⟩, trivial⟩ trivial rfl rfl rfl rfl rfl rfl rfl) zd45_95 zxt41 rfl (by show 1 + 1 ≤ 6 + (dp + 1); omega) (by show 8 + (2 + 11) + 60 * (1) ≤ 60 * (6 + (dp + 1)); omega) rfl ?_
            have hw := Option.some.inj h
            subst hw
            exact hvret _ _ _ _ zd45_98 trivial ⟨rfl, rfl, rfl⟩
        · rw [if_pos hc6] at h
          refine zv_con hB zd45_76 rfl ?_
          refine zv_goto hB zd45_77 rfl ?_
          refine zv_ist hB zd45_87 rfl rfl rfl ?_
          refine zv_ild hB zd45_88 rfl rfl ?_
          refine zv_con hB zd45_89 rfl ?_
          refine zv_cne hB zd45_90 rfl (fun hc => absurd hc (by decide)) (fun _ => ?_)
          refine zv_ald hB zd45_93 rfl rfl rfl ?_
          refine zv_con hB zd45_94 rfl ?_
          obtain ⟨r11, hr11, h⟩ := zi_bind h
          refine zv_cv hB (zv_emq (va2 := [.inr 0, .inl 1]) (F := [.inl f0, .inl f1, .inl f2, .inr 2, .inl f4]) (F' := [.inl r11, .inl f1, .inl f2, .inr 2, .inl f4]) (G := [g0, g1, g2]) (G' := [g0, g1, g2]) (ρ := [0]) (φ := [0, 1]) (ψ := []) [some 0, some 1, none, none, none] [none, none, none] zyw_LawReader_fail zyw_LawReader_readSum zye_LawReader_readSum (by decide +kernel) (zt_LawReader_fail hr11) ⟨⟨_, rfl, fun _ => rfl⟩, ⟨_, rfl, fun _ => rfl⟩, trivial⟩ trivial rfl rfl rfl rfl rfl rfl rfl) zd45_95 zxt41 rfl (by show 1 + 1 ≤ 6 + (dp + 1); omega) (by show 8 + (2 + 11) + 60 * (1) ≤ 60 * (6 + (dp + 1)); omega) rfl ?_
          have hw := Option.some.inj h
          subst hw
          exact hvret _ _ _ _ zd45_98 trivial ⟨rfl, rfl, rfl⟩
      · rw [if_neg hc5] at h
        refine zv_ald hB zd45_64 rfl rfl rfl ?_
        obtain ⟨r12, hr12, h⟩ := zi_bind h
        refine zv_cv hB (zv_emq (va2 := [.inr 0]) (F := [.inl f0, .inl f1, .inl f2, .inr 2, .inl f4]) (F' := [.inl r12.2.2.1, .inl r12.1, .inl f2, .inr 2, .inl r12.2.1]) (G := [g0, g1, g2]) (G' := [g0, r12.2.2.2.1, r12.2.2.2.2]) (ρ := [0, 1, 2, 3, 4]) (φ := [1, 2, 3, 4, 0]) (ψ := [0, 1, 2]) [some 4, some 0, some 1, some 2, some 3] [some 0, some 1, some 2] zyw_LawReader_readNumber zyw_LawReader_readSum zye_LawReader_readSum (by decide +kernel) (zt_LawReader_readNumber hr12) ⟨⟨_, rfl, fun _ => rfl⟩, ⟨_, rfl, fun _ => rfl⟩, ⟨_, rfl, fun _ => rfl⟩, ⟨_, rfl, fun _ => rfl⟩, ⟨_, rfl, fun _ => rfl⟩, trivial⟩ ⟨rfl, rfl, rfl, trivial⟩ rfl rfl rfl rfl rfl rfl rfl) zd45_65 zxt48 rfl (by show 2 + 1 ≤ 6 + (dp + 1); omega) (by show 8 + (3 + 11) + 60 * (2) ≤ 60 * (6 + (dp + 1)); omega) rfl ?_
        refine zv_goto hB zd45_68 rfl ?_
        have hw := Option.some.inj h
        subst hw
        exact hvret _ _ _ _ zd45_119 trivial ⟨rfl, rfl, rfl⟩
    · rw [if_pos hc3] at h
      refine zv_ild hB zd45_19 rfl rfl ?_
      refine zv_con hB zd45_20 rfl ?_
      refine zv_clt hB zd45_22 rfl (fun hc13 => ?_) (fun hc13 => ?_)
      · rw [if_pos hc13] at h
        refine zv_ald hB zd45_31 rfl rfl rfl ?_
        refine zv_dup hB zd45_32 rfl ?_
        refine zv_getf hB zd45_33 rfl rfl (fun _ _ => ?_)
        refine zv_con hB zd45_36 rfl ?_
        refine zv_addw hB zd45_37 ?_
        refine zv_putf hB zd45_38 rfl rfl (fun h => by cases h) rfl ?_
        refine zv_ald hB zd45_41 rfl rfl rfl ?_
        refine zv_ild hB zd45_42 rfl rfl ?_
        refine zv_con hB zd45_43 rfl ?_
        refine zv_addw hB zd45_44 ?_
        obtain ⟨r14, hr14, h⟩ := zi_bind h
        refine zv_cv hB (show zv_Fn _ _ _ zy_LawReader_readSum _ _ [.inr 0, .inl (zi_w (x1 + 1))] [.inl f0, .inl (zi_w (f1 + 1)), .inl f2, .inr 2, .inl f4] [g0, g1, g2] none [.inl r14.1, .inl r14.2.1, .inl f2, .inr 2, .inl r14.2.2.1] [g0, r14.2.2.2.1, r14.2.2.2.2] from ih0 _ _ _ _ _ _ _ _ r14 hr14) zd45_45 zxt43 rfl (by show 6 + dp + 1 ≤ 6 + (dp + 1); omega) (by show 8 + (3 + 11) + 60 * (6 + dp) ≤ 60 * (6 + (dp + 1)); omega) rfl ?_
        refine zv_ald hB zd45_48 rfl rfl rfl ?_
        refine zv_con hB zd45_49 rfl ?_
        obtain ⟨r15, hr15, h⟩ := zi_bind h
        refine zv_cv hB (zv_emq (va2 := [.inr 0, .inl 93]) (F := [.inl r14.1, .inl r14.2.1, .inl f2, .inr 2, .inl r14.2.2.1]) (F' := [.inl r15.1, .inl r15.2, .inl f2, .inr 2, .inl r14.2.2.1]) (G := [g0, r14.2.2.2.1, r14.2.2.2.2]) (G' := [g0, r14.2.2.2.1, r14.2.2.2.2]) (ρ := [0, 1]) (φ := [0, 1, 2]) (ψ := [0]) [some 0, some 1, some 2, none, none] [some 0, none, none] zyw_LawReader_skip zyw_LawReader_readSum zye_LawReader_readSum (by decide +kernel) (zt_LawReader_skip hr15) ⟨⟨_, rfl, fun _ => rfl⟩, ⟨_, rfl, fun _ => rfl⟩, ⟨_, rfl, fun _ => rfl⟩, trivial⟩ ⟨rfl, trivial⟩ rfl rfl rfl rfl rfl rfl rfl) zd45_51 zxt46 rfl (by show 2 + 1 ≤ 6 + (dp + 1); omega) (by show 8 + (2 + 11) + 60 * (2) ≤ 60 * (6 + (dp + 1)); omega) rfl ?_
        refine zv_goto hB zd45_54 rfl ?_
        have hw := Option.some.inj h
        subst hw
        exact hvret _ _ _ _ zd45_119 trivial ⟨rfl, rfl, rfl⟩
      · rw [if_neg (Int.not_lt.mpr hc13)] at h
        refine zv_ald hB zd45_25 rfl rfl rfl ?_
        refine zv_con hB zd45_26 rfl ?_
        obtain ⟨r16, hr16, h⟩ := zi_bind h
        refine zv_cv hB (zv_emq (va2 := [.inr 0, .inl 5]) (F := [.inl f0, .inl f1, .inl f2, .inr 2, .inl f4]) (F' := [.inl r16, .inl f1, .inl f2, .inr 2, .inl f4]) (G := [g0, g1, g2]) (G' := [g0, g1, g2]) (ρ := [0]) (φ := [0, 1]) (ψ := []) [some 0, some 1, none, none, none] [none, none, none] zyw_LawReader_fail zyw_LawReader_readSum zye_LawReader_readSum (by decide +kernel) (zt_LawReader_fail hr16) ⟨⟨_, rfl, fun _ => rfl⟩, ⟨_, rfl, fun _ => rfl⟩, trivial⟩ trivial rfl rfl rfl rfl rfl rfl rfl) zd45_27 zxt41 rfl (by show 1 + 1 ≤ 6 + (dp + 1); omega) (by show 8 + (2 + 11) + 60 * (1) ≤ 60 * (6 + (dp + 1)); omega) rfl ?_
        have hw := Option.some.inj h
        subst hw
        exact hvret _ _ _ _ zd45_30 trivial ⟨rfl, rfl, rfl⟩
  · rw [if_neg hc1] at h
    have hw := Option.some.inj h
    subst hw
    exact hvret _ _ _ _ zd45_7 trivial ⟨rfl, rfl, rfl⟩
def zg_LawReader_readSum : Nat → Nat → Int → Int → Int → Int → Int → (Int → Int) → (Int → Int) → (Int → Int) → Option (Int × Int × Int × (Int → Int) × (Int → Int))
  | 0, _, _, _, _, _, _, _, _, _ => none
  | n + 1, 0, x1, f0, f1, f2, f4, g0, g1, g2 => zm_LawReader_readSum (zg_LawReader_readSum n) x1 f0 f1 f2 f4 g0 g1 g2
  | n + 1, 1, x1, f0, f1, f2, f4, g0, g1, g2 => zm_LawReader_readTerm (zg_LawReader_readSum n) x1 f0 f1 f2 f4 g0 g1 g2
  | n + 1, _, x1, f0, f1, f2, f4, g0, g1, g2 => zm_LawReader_readFactor (zg_LawReader_readSum n) x1 f0 f1 f2 f4 g0 g1 g2
theorem ztg_LawReader_readSum : ∀ n : Nat, (∀ (x1 : Int) (f0 : Int) (f1 : Int) (f2 : Int) (f4 : Int) (g0 : (Int → Int)) (g1 : (Int → Int)) (g2 : (Int → Int)) (o : Int × Int × Int × (Int → Int) × (Int → Int)), zg_LawReader_readSum n 0 x1 f0 f1 f2 f4 g0 g1 g2 = some o → zv_Fn z_TB z_cl z_KX zy_LawReader_readSum zxm43 (6 + n, 60 * (6 + n)) [.inr 0, .inl x1] [.inl f0, .inl f1, .inl f2, .inr 2, .inl f4] [g0, g1, g2] none [.inl o.1, .inl o.2.1, .inl f2, .inr 2, .inl o.2.2.1] [g0, o.2.2.2.1, o.2.2.2.2]) ∧ (∀ (x1 : Int) (f0 : Int) (f1 : Int) (f2 : Int) (f4 : Int) (g0 : (Int → Int)) (g1 : (Int → Int)) (g2 : (Int → Int)) (o : Int × Int × Int × (Int → Int) × (Int → Int)), zg_LawReader_readSum n 1 x1 f0 f1 f2 f4 g0 g1 g2 = some o → zv_Fn z_TB z_cl z_KX zy_LawReader_readSum zxm44 (6 + n, 60 * (6 + n)) [.inr 0, .inl x1] [.inl f0, .inl f1, .inl f2, .inr 2, .inl f4] [g0, g1, g2] none [.inl o.1, .inl o.2.1, .inl f2, .inr 2, .inl o.2.2.1] [g0, o.2.2.2.1, o.2.2.2.2]) ∧ (∀ (x1 : Int) (f0 : Int) (f1 : Int) (f2 : Int) (f4 : Int) (g0 : (Int → Int)) (g1 : (Int → Int)) (g2 : (Int → Int)) (o : Int × Int × Int × (Int → Int) × (Int → Int)), zg_LawReader_readSum n 2 x1 f0 f1 f2 f4 g0 g1 g2 = some o → zv_Fn z_TB z_cl z_KX zy_LawReader_readSum zxm45 (6 + n, 60 * (6 + n)) [.inr 0, .inl x1] [.inl f0, .inl f1, .inl f2, .inr 2, .inl f4] [g0, g1, g2] none [.inl o.1, .inl o.2.1, .inl f2, .inr 2, .inl o.2.2.1] [g0, o.2.2.2.1, o.2.2.2.2]) := by
  intro n
  induction n with
  | zero => exact ⟨fun _ _ _ _ _ _ _ _ o h => absurd (show none = some o from h) (fun h => by cases h), fun _ _ _ _ _ _ _ _ o h => absurd (show none = some o from h) (fun h => by cases h), fun _ _ _ _ _ _ _ _ o h => absurd (show none = some o from h) (fun h => by cases h)⟩
  | succ n ih =>
    obtain ⟨ih0, ih1, ih2⟩ := ih
    exact ⟨fun _ _ _ _ _ _ _ _ o h => zts_LawReader_readSum (rc := zg_LawReader_readSum n) ih0 ih1 ih2 h, fun _ _ _ _ _ _ _ _ o h => zts_LawReader_readTerm (rc := zg_LawReader_readSum n) ih0 ih1 ih2 h, fun _ _ _ _ _ _ _ _ o h => zts_LawReader_readFactor (rc := zg_LawReader_readSum n) ih0 ih1 ih2 h⟩
def zf_LawReader_readSum (x1 : Int) (f0 : Int) (f1 : Int) (f2 : Int) (f4 : Int) (g0 : (Int → Int)) (g1 : (Int → Int)) (g2 : (Int → Int)) : Option (Int × Int × Int × (Int → Int) × (Int → Int)) := zg_LawReader_readSum 30 0 x1 f0 f1 f2 f4 g0 g1 g2
theorem zt_LawReader_readSum {x1 : Int} {f0 : Int} {f1 : Int} {f2 : Int} {f4 : Int} {g0 : (Int → Int)} {g1 : (Int → Int)} {g2 : (Int → Int)} {o : Int × Int × Int × (Int → Int) × (Int → Int)} (h : zf_LawReader_readSum x1 f0 f1 f2 f4 g0 g1 g2 = some o) : zv_Fn z_TB z_cl z_KX zy_LawReader_readSum zxm43 (36, 2160) [.inr 0, .inl x1] [.inl f0, .inl f1, .inl f2, .inr 2, .inl f4] [g0, g1, g2] none [.inl o.1, .inl o.2.1, .inl f2, .inr 2, .inl o.2.2.1] [g0, o.2.2.2.1, o.2.2.2.2] := (ztg_LawReader_readSum 30).1 _ _ _ _ _ _ _ _ o h
def zf_LawReader_readTerm (x1 : Int) (f0 : Int) (f1 : Int) (f2 : Int) (f4 : Int) (g0 : (Int → Int)) (g1 : (Int → Int)) (g2 : (Int → Int)) : Option (Int × Int × Int × (Int → Int) × (Int → Int)) := zg_LawReader_readSum 30 1 x1 f0 f1 f2 f4 g0 g1 g2
theorem zt_LawReader_readTerm {x1 : Int} {f0 : Int} {f1 : Int} {f2 : Int} {f4 : Int} {g0 : (Int → Int)} {g1 : (Int → Int)} {g2 : (Int → Int)} {o : Int × Int × Int × (Int → Int) × (Int → Int)} (h : zf_LawReader_readTerm x1 f0 f1 f2 f4 g0 g1 g2 = some o) : zv_Fn z_TB z_cl z_KX zy_LawReader_readSum zxm44 (36, 2160) [.inr 0, .inl x1] [.inl f0, .inl f1, .inl f2, .inr 2, .inl f4] [g0, g1, g2] none [.inl o.1, .inl o.2.1, .inl f2, .inr 2, .inl o.2.2.1] [g0, o.2.2.2.1, o.2.2.2.2] := (ztg_LawReader_readSum 30).2.1 _ _ _ _ _ _ _ _ o h
def zf_LawReader_readFactor (x1 : Int) (f0 : Int) (f1 : Int) (f2 : Int) (f4 : Int) (g0 : (Int → Int)) (g1 : (Int → Int)) (g2 : (Int → Int)) : Option (Int × Int × Int × (Int → Int) × (Int → Int)) := zg_LawReader_readSum 30 2 x1 f0 f1 f2 f4 g0 g1 g2
theorem zt_LawReader_readFactor {x1 : Int} {f0 : Int} {f1 : Int} {f2 : Int} {f4 : Int} {g0 : (Int → Int)} {g1 : (Int → Int)} {g2 : (Int → Int)} {o : Int × Int × Int × (Int → Int) × (Int → Int)} (h : zf_LawReader_readFactor x1 f0 f1 f2 f4 g0 g1 g2 = some o) : zv_Fn z_TB z_cl z_KX zy_LawReader_readSum zxm45 (36, 2160) [.inr 0, .inl x1] [.inl f0, .inl f1, .inl f2, .inr 2, .inl f4] [g0, g1, g2] none [.inl o.1, .inl o.2.1, .inl f2, .inr 2, .inl o.2.2.1] [g0, o.2.2.2.1, o.2.2.2.2] := (ztg_LawReader_readSum 30).2.2 _ _ _ _ _ _ _ _ o h
end
