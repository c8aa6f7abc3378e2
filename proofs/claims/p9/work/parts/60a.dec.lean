/-! Methods as functions, and that they do what these do. -/
/-! X_isWithin (III)Z -/
-- names: 
-- fields: ; arrays: ; out: [('ret', None)]
abbrev zy_X_isWithin : zNL := (0, [], [], [], [])
theorem zyw_X_isWithin : zv_wf zy_X_isWithin = true := by decide +kernel
theorem zye_X_isWithin : zv_ek2 zy_X_isWithin = true := by decide +kernel
def zf_X_isWithin (x0 : Int) (x1 : Int) (x2 : Int) : Option (Int) := if x0 < x1 then (some 0) else (if x2 < x0 then (some 0) else (some 1))
theorem zd15_0 : decode zxm15.2.1 0 = .ok (.iload_n 0, 1) := by decide +kernel
theorem zd15_1 : decode zxm15.2.1 1 = .ok (.iload_n 1, 1) := by decide +kernel
theorem zd15_2 : decode zxm15.2.1 2 = .ok (.if_icmp .lt 12, 3) := by decide +kernel
theorem zd15_5 : decode zxm15.2.1 5 = .ok (.iload_n 0, 1) := by decide +kernel
theorem zd15_6 : decode zxm15.2.1 6 = .ok (.iload_n 2, 1) := by decide +kernel
theorem zd15_7 : decode zxm15.2.1 7 = .ok (.if_icmp .gt 7, 3) := by decide +kernel
theorem zd15_10 : decode zxm15.2.1 10 = .ok (.iconst 1, 1) := by decide +kernel
theorem zd15_11 : decode zxm15.2.1 11 = .ok (.goto 4, 3) := by decide +kernel
theorem zd15_14 : decode zxm15.2.1 14 = .ok (.iconst 0, 1) := by decide +kernel
theorem zd15_15 : decode zxm15.2.1 15 = .ok (.ireturn, 1) := by decide +kernel
theorem zt_X_isWithin {x0 : Int} {x1 : Int} {x2 : Int} {o : Int} (h : zf_X_isWithin x0 x1 x2 = some o) : zv_Fn z_TB z_cl z_KX zy_X_isWithin zxm15 (0, 0) [.inl x0, .inl x1, .inl x2] [] [] (some o) [] [] := zv_meth (K := (z_KF0, z_KC0, z_KL0, z_KT0, [], [], [], none)) (FT := z_FT) (MT := z_MT) (n := 3) zxp15 (z_ks0 _ (fun _ h => List.mem_cons_of_mem _ h) _ _ _ _ (fun j r h _ => by cases h)) (fun _ _ => zs_KX_p) zyw_X_isWithin (fun va F G h => by obtain ⟨rfl, _⟩ := h; rfl) (fun va F G h => by obtain ⟨rfl, _⟩ := h; rfl) rfl fun good va F G hB hret hvret hP => by
  obtain ⟨rfl, rfl, rfl⟩ := hP
  unfold zf_X_isWithin at h
  refine zv_ild hB zd15_0 rfl rfl ?_
  refine zv_ild hB zd15_1 rfl rfl ?_
  refine zv_clt hB zd15_2 rfl (fun hc1 => ?_) (fun hc1 => ?_)
  · rw [if_pos hc1] at h
    refine zv_con hB zd15_14 rfl ?_
    have hw := Option.some.inj h
    subst hw
    exact hret _ _ _ _ _ zd15_15 (by constructor <;> decide) ⟨rfl, rfl, rfl⟩
  · rw [if_neg (Int.not_lt.mpr hc1)] at h
    refine zv_ild hB zd15_5 rfl rfl ?_
    refine zv_ild hB zd15_6 rfl rfl ?_
    refine zv_cgt hB zd15_7 rfl (fun hc2 => ?_) (fun hc2 => ?_)
    · rw [if_pos hc2] at h
      refine zv_con hB zd15_14 rfl ?_
      have hw := Option.some.inj h
      subst hw
      exact hret _ _ _ _ _ zd15_15 (by constructor <;> decide) ⟨rfl, rfl, rfl⟩
    · rw [if_neg (Int.not_lt.mpr hc2)] at h
      refine zv_con hB zd15_10 rfl ?_
      refine zv_goto hB zd15_11 rfl ?_
      have hw := Option.some.inj h
      subst hw
      exact hret _ _ _ _ _ zd15_15 (by constructor <;> decide) ⟨rfl, rfl, rfl⟩
/-! X_isPlace (II)Z -/
-- names: 
-- fields: ; arrays: ; out: [('ret', None)]
abbrev zy_X_isPlace : zNL := (0, [], [], [], [])
theorem zyw_X_isPlace : zv_wf zy_X_isPlace = true := by decide +kernel
theorem zye_X_isPlace : zv_ek2 zy_X_isPlace = true := by decide +kernel
def zf_X_isPlace (x0 : Int) (x1 : Int) : Option (Int) := if x0 < 0 then (some 0) else (if x0 < 24 then (if x1 < 0 then (some 0) else (if x1 < 12 then (some 1) else (some 0))) else (some 0))
theorem zd16_0 : decode zxm16.2.1 0 = .ok (.iload_n 0, 1) := by decide +kernel
theorem zd16_1 : decode zxm16.2.1 1 = .ok (.ifCond .lt 23, 3) := by decide +kernel
theorem zd16_4 : decode zxm16.2.1 4 = .ok (.iload_n 0, 1) := by decide +kernel
theorem zd16_5 : decode zxm16.2.1 5 = .ok (.bipush 24, 2) := by decide +kernel
theorem zd16_7 : decode zxm16.2.1 7 = .ok (.if_icmp .ge 17, 3) := by decide +kernel
theorem zd16_10 : decode zxm16.2.1 10 = .ok (.iload_n 1, 1) := by decide +kernel
theorem zd16_11 : decode zxm16.2.1 11 = .ok (.ifCond .lt 13, 3) := by decide +kernel
theorem zd16_14 : decode zxm16.2.1 14 = .ok (.iload_n 1, 1) := by decide +kernel
theorem zd16_15 : decode zxm16.2.1 15 = .ok (.bipush 12, 2) := by decide +kernel
theorem zd16_17 : decode zxm16.2.1 17 = .ok (.if_icmp .ge 7, 3) := by decide +kernel
theorem zd16_20 : decode zxm16.2.1 20 = .ok (.iconst 1, 1) := by decide +kernel
theorem zd16_21 : decode zxm16.2.1 21 = .ok (.goto 4, 3) := by decide +kernel
theorem zd16_24 : decode zxm16.2.1 24 = .ok (.iconst 0, 1) := by decide +kernel
theorem zd16_25 : decode zxm16.2.1 25 = .ok (.ireturn, 1) := by decide +kernel
theorem zt_X_isPlace {x0 : Int} {x1 : Int} {o : Int} (h : zf_X_isPlace x0 x1 = some o) : zv_Fn z_TB z_cl z_KX zy_X_isPlace zxm16 (0, 0) [.inl x0, .inl x1] [] [] (some o) [] [] := zv_meth (K := (z_KF0, z_KC0, z_KL0, z_KT0, [], [], [], none)) (FT := z_FT) (MT := z_MT) (n := 2) zxp16 (z_ks0 _ (fun _ h => List.mem_cons_of_mem _ h) _ _ _ _ (fun j r h _ => by cases h)) (fun _ _ => zs_KX_p) zyw_X_isPlace (fun va F G h => by obtain ⟨rfl, _⟩ := h; rfl) (fun va F G h => by obtain ⟨rfl, _⟩ := h; rfl) rfl fun good va F G hB hret hvret hP => by
  obtain ⟨rfl, rfl, rfl⟩ := hP
  unfold zf_X_isPlace at h
  refine zv_ild hB zd16_0 rfl rfl ?_
  refine zv_zlt hB zd16_1 rfl (fun hc1 => ?_) (fun hc1 => ?_)
  · rw [if_pos hc1] at h
    refine zv_con hB zd16_24 rfl ?_
    have hw := Option.some.inj h
    subst hw
    exact hret _ _ _ _ _ zd16_25 (by constructor <;> decide) ⟨rfl, rfl, rfl⟩
  · rw [if_neg (Int.not_lt.mpr hc1)] at h
    refine zv_ild hB zd16_4 rfl rfl ?_
    refine zv_con hB zd16_5 rfl ?_
    refine zv_cge hB zd16_7 rfl (fun hc2 => ?_) (fun hc2 => ?_)
    · rw [if_neg (Int.not_lt.mpr hc2)] at h
      refine zv_con hB zd16_24 rfl ?_
      have hw := Option.some.inj h
      subst hw
      exact hret _ _ _ _ _ zd16_25 (by constructor <;> decide) ⟨rfl, rfl, rfl⟩
    · rw [if_pos hc2] at h
      refine zv_ild hB zd16_10 rfl rfl ?_
      refine zv_zlt hB zd16_11 rfl (fun hc3 => ?_) (fun hc3 => ?_)
      · rw [if_pos hc3] at h
        refine zv_con hB zd16_24 rfl ?_
        have hw := Option.some.inj h
        subst hw
        exact hret _ _ _ _ _ zd16_25 (by constructor <;> decide) ⟨rfl, rfl, rfl⟩
      · rw [if_neg (Int.not_lt.mpr hc3)] at h
        refine zv_ild hB zd16_14 rfl rfl ?_
        refine zv_con hB zd16_15 rfl ?_
        refine zv_cge hB zd16_17 rfl (fun hc4 => ?_) (fun hc4 => ?_)
        · rw [if_neg (Int.not_lt.mpr hc4)] at h
          refine zv_con hB zd16_24 rfl ?_
          have hw := Option.some.inj h
          subst hw
          exact hret _ _ _ _ _ zd16_25 (by constructor <;> decide) ⟨rfl, rfl, rfl⟩
        · rw [if_pos hc4] at h
          refine zv_con hB zd16_20 rfl ?_
          refine zv_goto hB zd16_21 rfl ?_
          have hw := Option.some.inj h
          subst hw
          exact hret _ _ _ _ _ zd16_25 (by constructor <;> decide) ⟨rfl, rfl, rfl⟩
/-! X_star (IIII)Z -/
-- names: 0 StarTales('arg', 0), 1 Sky(0, 0, 0), 2 (0, 24)(1, 1, 1), 3 (0, 24)(1, 1, 2), 4 (0, 24)(1, 1, 3), 5 (0, 24)(1, 1, 4), 6 (0, 24)(1, 1, 5)
-- fields: f0 = 1.told_; arrays: g0 = 2, g1 = 3, g2 = 4, g3 = 5, g4 = 6; out: [('ret', None), ('f', 0), ('g', 0), ('g', 1), ('g', 2), ('g', 3), ('g', 4)]
abbrev zy_X_star : zNL := (7, [(0, 0), (1, 1)], [(1, 1, 0, 0)], [(0, 0, 0, 1), (1, 1, 1, 2), (1, 1, 2, 3), (1, 1, 3, 4), (1, 1, 4, 5), (1, 1, 5, 6)], [(2, 0, 24, 0), (3, 0, 24, 1), (4, 0, 24, 2), (5, 0, 24, 3), (6, 0, 24, 4)])
theorem zyw_X_star : zv_wf zy_X_star = true := by decide +kernel
theorem zye_X_star : zv_ek2 zy_X_star = true := by decide +kernel
def zf_X_star (x1 : Int) (x2 : Int) (x3 : Int) (x4 : Int) (f0 : Int) (g0 : (Int → Int)) (g1 : (Int → Int)) (g2 : (Int → Int)) (g3 : (Int → Int)) (g4 : (Int → Int)) : Option (Int × Int × (Int → Int) × (Int → Int) × (Int → Int) × (Int → Int) × (Int → Int)) := (zf_X_isWithin x1 0 23).bind fun r1 => (if r1 = 0 then (some (0, f0, g0, g1, g2, g3, g4)) else ((zf_X_isPlace x2 x3).bind fun r3 => (if r3 = 0 then (some (0, f0, g0, g1, g2, g3, g4)) else ((zf_X_isWithin x4 1 9).bind fun r5 => (if r5 = 0 then (some (0, f0, g0, g1, g2, g3, g4)) else (cond (zi_ix x1 24) (some (1, (zi_or f0 (zi_shl 1 x1)), (zv_up g0 x1 x2), (zv_up g1 x1 x3), (zv_up g2 x1 x4), (zv_up g3 x1 0), (zv_up g4 x1 0))) none))))))
theorem zd14_0 : decode zxm14.2.1 0 = .ok (.iload_n 1, 1) := by decide +kernel
theorem zd14_1 : decode zxm14.2.1 1 = .ok (.iconst 0, 1) := by decide +kernel
theorem zd14_2 : decode zxm14.2.1 2 = .ok (.bipush 23, 2) := by decide +kernel
theorem zd14_4 : decode zxm14.2.1 4 = .ok (.invokestatic 126, 3) := by decide +kernel
theorem zd14_7 : decode zxm14.2.1 7 = .ok (.ifCond .eq 22, 3) := by decide +kernel
theorem zd14_10 : decode zxm14.2.1 10 = .ok (.iload_n 2, 1) := by decide +kernel
theorem zd14_11 : decode zxm14.2.1 11 = .ok (.iload_n 3, 1) := by decide +kernel
theorem zd14_12 : decode zxm14.2.1 12 = .ok (.invokestatic 130, 3) := by decide +kernel
theorem zd14_15 : decode zxm14.2.1 15 = .ok (.ifCond .eq 14, 3) := by decide +kernel
theorem zd14_18 : decode zxm14.2.1 18 = .ok (.iload 4, 2) := by decide +kernel
theorem zd14_20 : decode zxm14.2.1 20 = .ok (.iconst 1, 1) := by decide +kernel
theorem zd14_21 : decode zxm14.2.1 21 = .ok (.bipush 9, 2) := by decide +kernel
theorem zd14_23 : decode zxm14.2.1 23 = .ok (.invokestatic 126, 3) := by decide +kernel
theorem zd14_26 : decode zxm14.2.1 26 = .ok (.ifCond .ne 5, 3) := by decide +kernel
theorem zd14_29 : decode zxm14.2.1 29 = .ok (.iconst 0, 1) := by decide +kernel
theorem zd14_30 : decode zxm14.2.1 30 = .ok (.ireturn, 1) := by decide +kernel
theorem zd14_31 : decode zxm14.2.1 31 = .ok (.aload_n 0, 1) := by decide +kernel
theorem zd14_32 : decode zxm14.2.1 32 = .ok (.getfield 10, 3) := by decide +kernel
theorem zd14_35 : decode zxm14.2.1 35 = .ok (.dup, 1) := by decide +kernel
theorem zd14_36 : decode zxm14.2.1 36 = .ok (.getfield 134, 3) := by decide +kernel
theorem zd14_39 : decode zxm14.2.1 39 = .ok (.iconst 1, 1) := by decide +kernel
theorem zd14_40 : decode zxm14.2.1 40 = .ok (.iload_n 1, 1) := by decide +kernel
theorem zd14_41 : decode zxm14.2.1 41 = .ok (.ishl, 1) := by decide +kernel
theorem zd14_42 : decode zxm14.2.1 42 = .ok (.ior, 1) := by decide +kernel
theorem zd14_43 : decode zxm14.2.1 43 = .ok (.putfield 134, 3) := by decide +kernel
theorem zd14_46 : decode zxm14.2.1 46 = .ok (.aload_n 0, 1) := by decide +kernel
theorem zd14_47 : decode zxm14.2.1 47 = .ok (.getfield 10, 3) := by decide +kernel
theorem zd14_50 : decode zxm14.2.1 50 = .ok (.getfield 138, 3) := by decide +kernel
theorem zd14_53 : decode zxm14.2.1 53 = .ok (.iload_n 1, 1) := by decide +kernel
theorem zd14_54 : decode zxm14.2.1 54 = .ok (.iload_n 2, 1) := by decide +kernel
theorem zd14_55 : decode zxm14.2.1 55 = .ok (.iastore, 1) := by decide +kernel
theorem zd14_56 : decode zxm14.2.1 56 = .ok (.aload_n 0, 1) := by decide +kernel
theorem zd14_57 : decode zxm14.2.1 57 = .ok (.getfield 10, 3) := by decide +kernel
theorem zd14_60 : decode zxm14.2.1 60 = .ok (.getfield 141, 3) := by decide +kernel
theorem zd14_63 : decode zxm14.2.1 63 = .ok (.iload_n 1, 1) := by decide +kernel
theorem zd14_64 : decode zxm14.2.1 64 = .ok (.iload_n 3, 1) := by decide +kernel
theorem zd14_65 : decode zxm14.2.1 65 = .ok (.iastore, 1) := by decide +kernel
theorem zd14_66 : decode zxm14.2.1 66 = .ok (.aload_n 0, 1) := by decide +kernel
theorem zd14_67 : decode zxm14.2.1 67 = .ok (.getfield 10, 3) := by decide +kernel
theorem zd14_70 : decode zxm14.2.1 70 = .ok (.getfield 144, 3) := by decide +kernel
theorem zd14_73 : decode zxm14.2.1 73 = .ok (.iload_n 1, 1) := by decide +kernel
theorem zd14_74 : decode zxm14.2.1 74 = .ok (.iload 4, 2) := by decide +kernel
theorem zd14_76 : decode zxm14.2.1 76 = .ok (.iastore, 1) := by decide +kernel
theorem zd14_77 : decode zxm14.2.1 77 = .ok (.aload_n 0, 1) := by decide +kernel
theorem zd14_78 : decode zxm14.2.1 78 = .ok (.getfield 10, 3) := by decide +kernel
theorem zd14_81 : decode zxm14.2.1 81 = .ok (.getfield 147, 3) := by decide +kernel
theorem zd14_84 : decode zxm14.2.1 84 = .ok (.iload_n 1, 1) := by decide +kernel
theorem zd14_85 : decode zxm14.2.1 85 = .ok (.iconst 0, 1) := by decide +kernel
theorem zd14_86 : decode zxm14.2.1 86 = .ok (.iastore, 1) := by decide +kernel
theorem zd14_87 : decode zxm14.2.1 87 = .ok (.aload_n 0, 1) := by decide +kernel
theorem zd14_88 : decode zxm14.2.1 88 = .ok (.getfield 10, 3) := by decide +kernel
theorem zd14_91 : decode zxm14.2.1 91 = .ok (.getfield 150, 3) := by decide +kernel
theorem zd14_94 : decode zxm14.2.1 94 = .ok (.iload_n 1, 1) := by decide +kernel
theorem zd14_95 : decode zxm14.2.1 95 = .ok (.iconst 0, 1) := by decide +kernel
theorem zd14_96 : decode zxm14.2.1 96 = .ok (.iastore, 1) := by decide +kernel
theorem zd14_97 : decode zxm14.2.1 97 = .ok (.iconst 1, 1) := by decide +kernel
theorem zd14_98 : decode zxm14.2.1 98 = .ok (.ireturn, 1) := by decide +kernel
theorem zt_X_star {x1 : Int} {x2 : Int} {x3 : Int} {x4 : Int} {f0 : Int} {g0 : (Int → Int)} {g1 : (Int → Int)} {g2 : (Int → Int)} {g3 : (Int → Int)} {g4 : (Int → Int)} {o : Int × Int × (Int → Int) × (Int → Int) × (Int → Int) × (Int → Int) × (Int → Int)} (h : zf_X_star x1 x2 x3 x4 f0 g0 g1 g2 g3 g4 = some o) : zv_Fn z_TB z_cl z_KX zy_X_star zxm14 (1, 60) [.inr 0, .inl x1, .inl x2, .inl x3, .inl x4] [.inl f0] [g0, g1, g2, g3, g4] (some o.1) [.inl o.2.1] [o.2.2.1, o.2.2.2.1, o.2.2.2.2.1, o.2.2.2.2.2.1, o.2.2.2.2.2.2] := zv_meth (K := (z_KF0, z_KC0, z_KL0, z_KT0, [], [], [], none)) (FT := z_FT) (MT := z_MT) (n := 5) zxp14 (z_ks0 _ (fun _ h => List.mem_cons_of_mem _ h) _ _ _ _ (fun j r h _ => by cases h)) (fun _ _ => zs_KX_p) zyw_X_star (fun va F G h => by obtain ⟨rfl, _⟩ := h; rfl) (fun va F G h => by obtain ⟨rfl, _⟩ := h; rfl) rfl fun good va F G hB hret hvret hP => by
  obtain ⟨rfl, rfl, rfl⟩ := hP
  unfold zf_X_star at h
  refine zv_ild hB zd14_0 rfl rfl ?_
  refine zv_con hB zd14_1 rfl ?_
  refine zv_con hB zd14_2 rfl ?_
  obtain ⟨r1, hr1, h⟩ := zi_bind h
  refine zv_cs hB (zv_emq (va2 := [.inl x1, .inl 0, .inl 23]) (F := [.inl f0]) (F' := [.inl f0]) (G := [g0, g1, g2, g3, g4]) (G' := [g0, g1, g2, g3, g4]) (ρ := []) (φ := []) (ψ := []) [none] [none, none, none, none, none] zyw_X_isWithin zyw_X_star zye_X_star (by decide +kernel) (zt_X_isWithin hr1) trivial trivial rfl rfl rfl rfl rfl rfl rfl) zd14_4 zxt15 rfl (by decide) (by decide) rfl ?_
  refine zv_zeq hB zd14_7 rfl (fun hc2 => ?_) (fun hc2 => ?_)
  · rw [if_pos hc2] at h
    refine zv_con hB zd14_29 rfl ?_
    have hw := Option.some.inj h
    subst hw
    exact hret _ _ _ _ _ zd14_30 (by constructor <;> decide) ⟨rfl, rfl, rfl⟩
  · rw [if_neg hc2] at h
    refine zv_ild hB zd14_10 rfl rfl ?_
    refine zv_ild hB zd14_11 rfl rfl ?_
    obtain ⟨r3, hr3, h⟩ := zi_bind h
    refine zv_cs hB (zv_emq (va2 := [.inl x2, .inl x3]) (F := [.inl f0]) (F' := [.inl f0]) (G := [g0, g1, g2, g3, g4]) (G' := [g0, g1, g2, g3, g4]) (ρ := []) (φ := []) (ψ := []) [none] [none, none, none, none, none] zyw_X_isPlace zyw_X_star zye_X_star (by decide +kernel) (zt_X_isPlace hr3) trivial trivial rfl rfl rfl rfl rfl rfl rfl) zd14_12 zxt16 rfl (by decide) (by decide) rfl ?_
    refine zv_zeq hB zd14_15 rfl (fun hc4 => ?_) (fun hc4 => ?_)
    · rw [if_pos hc4] at h
      refine zv_con hB zd14_29 rfl ?_
      have hw := Option.some.inj h
      subst hw
      exact hret _ _ _ _ _ zd14_30 (by constructor <;> decide) ⟨rfl, rfl, rfl⟩
    · rw [if_neg hc4] at h
      refine zv_ild hB zd14_18 rfl rfl ?_
      refine zv_con hB zd14_20 rfl ?_
      refine zv_con hB zd14_21 rfl ?_
      obtain ⟨r5, hr5, h⟩ := zi_bind h
      refine zv_cs hB (zv_emq (va2 := [.inl x4, .inl 1, .inl 9]) (F := [.inl f0]) (F' := [.inl f0]) (G := [g0, g1, g2, g3, g4]) (G' := [g0, g1, g2, g3, g4]) (ρ := []) (φ := []) (ψ := []) [none] [none, none, none, none, none] zyw_X_isWithin zyw_X_star zye_X_star (by decide +kernel) (zt_X_isWithin hr5) trivial trivial rfl rfl rfl rfl rfl rfl rfl) zd14_23 zxt15 rfl (by decide) (by decide) rfl ?_
      refine zv_zne hB zd14_26 rfl (fun hc6 => ?_) (fun hc6 => ?_)
      · rw [if_neg hc6] at h
        refine zv_ald hB zd14_31 rfl rfl rfl ?_
        refine zv_getr hB zd14_32 rfl ?_
        refine zv_dup hB zd14_35 rfl ?_
        refine zv_getf hB zd14_36 rfl rfl (fun _ _ => ?_)
        refine zv_con hB zd14_39 rfl ?_
        refine zv_ild hB zd14_40 rfl rfl ?_
        refine zv_shlw hB zd14_41 ?_
        refine zv_orw hB zd14_42 ?_
        refine zv_putf hB zd14_43 rfl rfl (fun h => by cases h) rfl ?_
        refine zv_ald hB zd14_46 rfl rfl rfl ?_
        refine zv_getr hB zd14_47 rfl ?_
        refine zv_getr hB zd14_50 rfl ?_
        refine zv_ild hB zd14_53 rfl rfl ?_
        refine zv_ild hB zd14_54 rfl rfl ?_
        obtain ⟨c7, h⟩ := zi_if h
        refine zv_iast hB zd14_55 rfl rfl (zi_ix_ok c7).1 (zi_ix_ok c7).2 ?_
        refine zv_ald hB zd14_56 rfl rfl rfl ?_
        refine zv_getr hB zd14_57 rfl ?_
        refine zv_getr hB zd14_60 rfl ?_
        refine zv_ild hB zd14_63 rfl rfl ?_
        refine zv_ild hB zd14_64 rfl rfl ?_
        refine zv_iast hB zd14_65 rfl rfl (zi_ix_ok c7).1 (zi_ix_ok c7).2 ?_
        refine zv_ald hB zd14_66 rfl rfl rfl ?_
        refine zv_getr hB zd14_67 rfl ?_
        refine zv_getr hB zd14_70 rfl ?_
        refine zv_ild hB zd14_73 rfl rfl ?_
        refine zv_ild hB zd14_74 rfl rfl ?_
        refine zv_iast hB zd14_76 rfl rfl (zi_ix_ok c7).1 (zi_ix_ok c7).2 ?_
        refine zv_ald hB zd14_77 rfl rfl rfl ?_
        refine zv_getr hB zd14_78 rfl ?_
        refine zv_getr hB zd14_81 rfl ?_
        refine zv_ild hB zd14_84 rfl rfl ?_
        refine zv_con hB zd14_85 rfl ?_
        refine zv_iast hB zd14_86 rfl rfl (zi_ix_ok c7).1 (zi_ix_ok c7).2 ?_
        refine zv_ald hB zd14_87 rfl rfl rfl ?_
        refine zv_getr hB zd14_88 rfl ?_
        refine zv_getr hB zd14_91 rfl ?_
        refine zv_ild hB zd14_94 rfl rfl ?_
        refine zv_con hB zd14_95 rfl ?_
        refine zv_iast hB zd14_96 rfl rfl (zi_ix_ok c7).1 (zi_ix_ok c7).2 ?_
        refine zv_con hB zd14_97 rfl ?_
        have hw := Option.some.inj h
        subst hw
        exact hret _ _ _ _ _ zd14_98 (by constructor <;> decide) ⟨rfl, rfl, rfl⟩
      · rw [if_pos hc6] at h
        refine zv_con hB zd14_29 rfl ?_
        have hw := Option.some.inj h
        subst hw
        exact hret _ _ _ _ _ zd14_30 (by constructor <;> decide) ⟨rfl, rfl, rfl⟩
/-! Sky_hasStar (I)Z -/
-- names: 0 Sky('arg', 0)
-- fields: f0 = 0.told_; arrays: ; out: [('ret', None)]
abbrev zy_Sky_hasStar : zNL := (1, [(0, 1)], [(0, 1, 0, 0)], [], [])
theorem zyw_Sky_hasStar : zv_wf zy_Sky_hasStar = true := by decide +kernel
theorem zye_Sky_hasStar : zv_ek2 zy_Sky_hasStar = true := by decide +kernel
def zf_Sky_hasStar (x1 : Int) (f0 : Int) : Option (Int) := if x1 < 0 then (some 0) else (if x1 < 24 then (if (zi_and (zi_shr f0 x1) 1) = 0 then (some 0) else (some 1)) else (some 0))
theorem zd18_0 : decode zxm18.2.1 0 = .ok (.iload_n 1, 1) := by decide +kernel
theorem zd18_1 : decode zxm18.2.1 1 = .ok (.ifCond .lt 24, 3) := by decide +kernel
theorem zd18_4 : decode zxm18.2.1 4 = .ok (.iload_n 1, 1) := by decide +kernel
theorem zd18_5 : decode zxm18.2.1 5 = .ok (.bipush 24, 2) := by decide +kernel
theorem zd18_7 : decode zxm18.2.1 7 = .ok (.if_icmp .ge 18, 3) := by decide +kernel
theorem zd18_10 : decode zxm18.2.1 10 = .ok (.aload_n 0, 1) := by decide +kernel
theorem zd18_11 : decode zxm18.2.1 11 = .ok (.getfield 9, 3) := by decide +kernel
theorem zd18_14 : decode zxm18.2.1 14 = .ok (.iload_n 1, 1) := by decide +kernel
theorem zd18_15 : decode zxm18.2.1 15 = .ok (.ishr, 1) := by decide +kernel
theorem zd18_16 : decode zxm18.2.1 16 = .ok (.iconst 1, 1) := by decide +kernel
theorem zd18_17 : decode zxm18.2.1 17 = .ok (.iand, 1) := by decide +kernel
theorem zd18_18 : decode zxm18.2.1 18 = .ok (.ifCond .eq 7, 3) := by decide +kernel
theorem zd18_21 : decode zxm18.2.1 21 = .ok (.iconst 1, 1) := by decide +kernel
theorem zd18_22 : decode zxm18.2.1 22 = .ok (.goto 4, 3) := by decide +kernel
theorem zd18_25 : decode zxm18.2.1 25 = .ok (.iconst 0, 1) := by decide +kernel
theorem zd18_26 : decode zxm18.2.1 26 = .ok (.ireturn, 1) := by decide +kernel
theorem zt_Sky_hasStar {x1 : Int} {f0 : Int} {o : Int} (h : zf_Sky_hasStar x1 f0 = some o) : zv_Fn z_TB z_cl z_KX zy_Sky_hasStar zxm18 (0, 0) [.inr 0, .inl x1] [.inl f0] [] (some o) [.inl f0] [] := zv_meth (K := (z_KF8, z_KC8, z_KL8, z_KT8, [], [], [], none)) (FT := z_FT) (MT := z_MT) (n := 2) zxp18 (z_ks8 _ (fun _ h => List.mem_cons_of_mem _ h) _ _ _ _ (fun j r h _ => by cases h)) (fun _ _ => zs_KX_p) zyw_Sky_hasStar (fun va F G h => by obtain ⟨rfl, _⟩ := h; rfl) (fun va F G h => by obtain ⟨rfl, _⟩ := h; rfl) rfl fun good va F G hB hret hvret hP => by
  obtain ⟨rfl, rfl, rfl⟩ := hP
  unfold zf_Sky_hasStar at h
  refine zv_ild hB zd18_0 rfl rfl ?_
  refine zv_zlt hB zd18_1 rfl (fun hc1 => ?_) (fun hc1 => ?_)
  · rw [if_pos hc1] at h
    refine zv_con hB zd18_25 rfl ?_
    have hw := Option.some.inj h
    subst hw
    exact hret _ _ _ _ _ zd18_26 (by constructor <;> decide) ⟨rfl, rfl, rfl⟩
  · rw [if_neg (Int.not_lt.mpr hc1)] at h
    refine zv_ild hB zd18_4 rfl rfl ?_
    refine zv_con hB zd18_5 rfl ?_
    refine zv_cge hB zd18_7 rfl (fun hc2 => ?_) (fun hc2 => ?_)
    · rw [if_neg (Int.not_lt.mpr hc2)] at h
      refine zv_con hB zd18_25 rfl ?_
      have hw := Option.some.inj h
      subst hw
      exact hret _ _ _ _ _ zd18_26 (by constructor <;> decide) ⟨rfl, rfl, rfl⟩
    · rw [if_pos hc2] at h
      refine zv_ald hB zd18_10 rfl rfl rfl ?_
      refine zv_getf hB zd18_11 rfl rfl (fun _ _ => ?_)
      refine zv_ild hB zd18_14 rfl rfl ?_
      refine zv_shrw hB zd18_15 ?_
      refine zv_con hB zd18_16 rfl ?_
      refine zv_andw hB zd18_17 ?_
      refine zv_zeq hB zd18_18 rfl (fun hc3 => ?_) (fun hc3 => ?_)
      · rw [if_pos hc3] at h
        refine zv_con hB zd18_25 rfl ?_
        have hw := Option.some.inj h
        subst hw
        exact hret _ _ _ _ _ zd18_26 (by constructor <;> decide) ⟨rfl, rfl, rfl⟩
      · rw [if_neg hc3] at h
        refine zv_con hB zd18_21 rfl ?_
        refine zv_goto hB zd18_22 rfl ?_
        have hw := Option.some.inj h
        subst hw
        exact hret _ _ _ _ _ zd18_26 (by constructor <;> decide) ⟨rfl, rfl, rfl⟩
/-! X_walk (III)Z -/
-- names: 0 StarTales('arg', 0), 1 Sky(0, 0, 0), 2 (0, 24)(1, 1, 4), 3 (0, 24)(1, 1, 5)
-- fields: f0 = 1.told_; arrays: g0 = 2, g1 = 3; out: [('ret', None), ('g', 0), ('g', 1)]
abbrev zy_X_walk : zNL := (4, [(0, 0), (1, 1)], [(1, 1, 0, 0)], [(0, 0, 0, 1), (1, 1, 4, 2), (1, 1, 5, 3)], [(2, 0, 24, 0), (3, 0, 24, 1)])
theorem zyw_X_walk : zv_wf zy_X_walk = true := by decide +kernel
theorem zye_X_walk : zv_ek2 zy_X_walk = true := by decide +kernel
def zf_X_walk (x1 : Int) (x2 : Int) (x3 : Int) (f0 : Int) (g0 : (Int → Int)) (g1 : (Int → Int)) : Option (Int × (Int → Int) × (Int → Int)) := (zf_Sky_hasStar x1 f0).bind fun r1 => (if r1 = 0 then (some (0, g0, g1)) else ((zf_X_isWithin x2 (-3) 3).bind fun r3 => (if r3 = 0 then (some (0, g0, g1)) else ((zf_X_isWithin x3 (-3) 3).bind fun r5 => (if r5 = 0 then (some (0, g0, g1)) else (cond (zi_ix x1 24) (some (1, (zv_up g0 x1 x2), (zv_up g1 x1 x3))) none))))))
theorem zd17_0 : decode zxm17.2.1 0 = .ok (.aload_n 0, 1) := by decide +kernel
theorem zd17_1 : decode zxm17.2.1 1 = .ok (.getfield 10, 3) := by decide +kernel
theorem zd17_4 : decode zxm17.2.1 4 = .ok (.iload_n 1, 1) := by decide +kernel
theorem zd17_5 : decode zxm17.2.1 5 = .ok (.invokevirtual 153, 3) := by decide +kernel
theorem zd17_8 : decode zxm17.2.1 8 = .ok (.ifCond .eq 23, 3) := by decide +kernel
theorem zd17_11 : decode zxm17.2.1 11 = .ok (.iload_n 2, 1) := by decide +kernel
theorem zd17_12 : decode zxm17.2.1 12 = .ok (.bipush (-3), 2) := by decide +kernel
theorem zd17_14 : decode zxm17.2.1 14 = .ok (.iconst 3, 1) := by decide +kernel
theorem zd17_15 : decode zxm17.2.1 15 = .ok (.invokestatic 126, 3) := by decide +kernel
theorem zd17_18 : decode zxm17.2.1 18 = .ok (.ifCond .eq 13, 3) := by decide +kernel
theorem zd17_21 : decode zxm17.2.1 21 = .ok (.iload_n 3, 1) := by decide +kernel
theorem zd17_22 : decode zxm17.2.1 22 = .ok (.bipush (-3), 2) := by decide +kernel
theorem zd17_24 : decode zxm17.2.1 24 = .ok (.iconst 3, 1) := by decide +kernel
theorem zd17_25 : decode zxm17.2.1 25 = .ok (.invokestatic 126, 3) := by decide +kernel
theorem zd17_28 : decode zxm17.2.1 28 = .ok (.ifCond .ne 5, 3) := by decide +kernel
theorem zd17_31 : decode zxm17.2.1 31 = .ok (.iconst 0, 1) := by decide +kernel
theorem zd17_32 : decode zxm17.2.1 32 = .ok (.ireturn, 1) := by decide +kernel
theorem zd17_33 : decode zxm17.2.1 33 = .ok (.aload_n 0, 1) := by decide +kernel
theorem zd17_34 : decode zxm17.2.1 34 = .ok (.getfield 10, 3) := by decide +kernel
theorem zd17_37 : decode zxm17.2.1 37 = .ok (.getfield 147, 3) := by decide +kernel
theorem zd17_40 : decode zxm17.2.1 40 = .ok (.iload_n 1, 1) := by decide +kernel
theorem zd17_41 : decode zxm17.2.1 41 = .ok (.iload_n 2, 1) := by decide +kernel
theorem zd17_42 : decode zxm17.2.1 42 = .ok (.iastore, 1) := by decide +kernel
theorem zd17_43 : decode zxm17.2.1 43 = .ok (.aload_n 0, 1) := by decide +kernel
theorem zd17_44 : decode zxm17.2.1 44 = .ok (.getfield 10, 3) := by decide +kernel
theorem zd17_47 : decode zxm17.2.1 47 = .ok (.getfield 150, 3) := by decide +kernel
theorem zd17_50 : decode zxm17.2.1 50 = .ok (.iload_n 1, 1) := by decide +kernel
theorem zd17_51 : decode zxm17.2.1 51 = .ok (.iload_n 3, 1) := by decide +kernel
theorem zd17_52 : decode zxm17.2.1 52 = .ok (.iastore, 1) := by decide +kernel
theorem zd17_53 : decode zxm17.2.1 53 = .ok (.iconst 1, 1) := by decide +kernel
theorem zd17_54 : decode zxm17.2.1 54 = .ok (.ireturn, 1) := by decide +kernel
theorem zt_X_walk {x1 : Int} {x2 : Int} {x3 : Int} {f0 : Int} {g0 : (Int → Int)} {g1 : (Int → Int)} {o : Int × (Int → Int) × (Int → Int)} (h : zf_X_walk x1 x2 x3 f0 g0 g1 = some o) : zv_Fn z_TB z_cl z_KX zy_X_walk zxm17 (1, 60) [.inr 0, .inl x1, .inl x2, .inl x3] [.inl f0] [g0, g1] (some o.1) [.inl f0] [o.2.1, o.2.2] := zv_meth (K := (z_KF0, z_KC0, z_KL0, z_KT0, [], [], [], none)) (FT := z_FT) (MT := z_MT) (n := 4) zxp17 (z_ks0 _ (fun _ h => List.mem_cons_of_mem _ h) _ _ _ _ (fun j r h _ => by cases h)) (fun _ _ => zs_KX_p) zyw_X_walk (fun va F G h => by obtain ⟨rfl, _⟩ := h; rfl) (fun va F G h => by obtain ⟨rfl, _⟩ := h; rfl) rfl fun good va F G hB hret hvret hP => by
  obtain ⟨rfl, rfl, rfl⟩ := hP
  unfold zf_X_walk at h
  refine zv_ald hB zd17_0 rfl rfl rfl ?_
  refine zv_getr hB zd17_1 rfl ?_
  refine zv_ild hB zd17_4 rfl rfl ?_
  obtain ⟨r1, hr1, h⟩ := zi_bind h
  refine zv_cv hB (zv_emq (va2 := [.inr 1, .inl x1]) (F := [.inl f0]) (F' := [.inl f0]) (G := [g0, g1]) (G' := [g0, g1]) (ρ := [1]) (φ := [0]) (ψ := []) [some 0] [none, none] zyw_Sky_hasStar zyw_X_walk zye_X_walk (by decide +kernel) (zt_Sky_hasStar hr1) ⟨⟨_, rfl, fun _ => rfl⟩, trivial⟩ trivial rfl rfl rfl rfl rfl rfl rfl) zd17_5 zxt18 rfl (by decide) (by decide) rfl ?_
  refine zv_zeq hB zd17_8 rfl (fun hc2 => ?_) (fun hc2 => ?_)
  · rw [if_pos hc2] at h
    refine zv_con hB zd17_31 rfl ?_
    have hw := Option.some.inj h
    subst hw
    exact hret _ _ _ _ _ zd17_32 (by constructor <;> decide) ⟨rfl, rfl, rfl⟩
  · rw [if_neg hc2] at h
    refine zv_ild hB zd17_11 rfl rfl ?_
    refine zv_con hB zd17_12 rfl ?_
    refine zv_con hB zd17_14 rfl ?_
    obtain ⟨r3, hr3, h⟩ := zi_bind h
    refine zv_cs hB (zv_emq (va2 := [.inl x2, .inl (-3), .inl 3]) (F := [.inl f0]) (F' := [.inl f0]) (G := [g0, g1]) (G' := [g0, g1]) (ρ := []) (φ := []) (ψ := []) [none] [none, none] zyw_X_isWithin zyw_X_walk zye_X_walk (by decide +kernel) (zt_X_isWithin hr3) trivial trivial rfl rfl rfl rfl rfl rfl rfl) zd17_15 zxt15 rfl (by decide) (by decide) rfl ?_
    refine zv_zeq hB zd17_18 rfl (fun hc4 => ?_) (fun hc4 => ?_)
    · rw [if_pos hc4] at h
      refine zv_con hB zd17_31 rfl ?_
      have hw := Option.some.inj h
      subst hw
      exact hret _ _ _ _ _ zd17_32 (by constructor <;> decide) ⟨rfl, rfl, rfl⟩
    · rw [if_neg hc4] at h
      refine zv_ild hB zd17_21 rfl rfl ?_
      refine zv_con hB zd17_22 rfl ?_
      refine zv_con hB zd17_24 rfl ?_
      obtain ⟨r5, hr5, h⟩ := zi_bind h
      refine zv_cs hB (zv_emq (va2 := [.inl x3, .inl (-3), .inl 3]) (F := [.inl f0]) (F' := [.inl f0]) (G := [g0, g1]) (G' := [g0, g1]) (ρ := []) (φ := []) (ψ := []) [none] [none, none] zyw_X_isWithin zyw_X_walk zye_X_walk (by decide +kernel) (zt_X_isWithin hr5) trivial trivial rfl rfl rfl rfl rfl rfl rfl) zd17_25 zxt15 rfl (by decide) (by decide) rfl ?_
      refine zv_zne hB zd17_28 rfl (fun hc6 => ?_) (fun hc6 => ?_)
      · rw [if_neg hc6] at h
        refine zv_ald hB zd17_33 rfl rfl rfl ?_
        refine zv_getr hB zd17_34 rfl ?_
        refine zv_getr hB zd17_37 rfl ?_
        refine zv_ild hB zd17_40 rfl rfl ?_
        refine zv_ild hB zd17_41 rfl rfl ?_
        obtain ⟨c7, h⟩ := zi_if h
        refine zv_iast hB zd17_42 rfl rfl (zi_ix_ok c7).1 (zi_ix_ok c7).2 ?_
        refine zv_ald hB zd17_43 rfl rfl rfl ?_
        refine zv_getr hB zd17_44 rfl ?_
        refine zv_getr hB zd17_47 rfl ?_
        refine zv_ild hB zd17_50 rfl rfl ?_
        refine zv_ild hB zd17_51 rfl rfl ?_
        refine zv_iast hB zd17_52 rfl rfl (zi_ix_ok c7).1 (zi_ix_ok c7).2 ?_
        refine zv_con hB zd17_53 rfl ?_
        have hw := Option.some.inj h
        subst hw
        exact hret _ _ _ _ _ zd17_54 (by constructor <;> decide) ⟨rfl, rfl, rfl⟩
      · rw [if_pos hc6] at h
        refine zv_con hB zd17_31 rfl ?_
        have hw := Option.some.inj h
        subst hw
        exact hret _ _ _ _ _ zd17_32 (by constructor <;> decide) ⟨rfl, rfl, rfl⟩
/-! X_gone (I)Z -/
-- names: 0 StarTales('arg', 0), 1 Sky(0, 0, 0)
-- fields: f0 = 1.told_; arrays: ; out: [('ret', None), ('f', 0)]
abbrev zy_X_gone : zNL := (2, [(0, 0), (1, 1)], [(1, 1, 0, 0)], [(0, 0, 0, 1)], [])
theorem zyw_X_gone : zv_wf zy_X_gone = true := by decide +kernel
theorem zye_X_gone : zv_ek2 zy_X_gone = true := by decide +kernel
def zf_X_gone (x1 : Int) (f0 : Int) : Option (Int × Int) := (zf_Sky_hasStar x1 f0).bind fun r1 => (if r1 = 0 then (some (0, f0)) else (some (1, (zi_and f0 (zi_xor (zi_shl 1 x1) (-1))))))
theorem zd19_0 : decode zxm19.2.1 0 = .ok (.aload_n 0, 1) := by decide +kernel
theorem zd19_1 : decode zxm19.2.1 1 = .ok (.getfield 10, 3) := by decide +kernel
theorem zd19_4 : decode zxm19.2.1 4 = .ok (.iload_n 1, 1) := by decide +kernel
theorem zd19_5 : decode zxm19.2.1 5 = .ok (.invokevirtual 153, 3) := by decide +kernel
theorem zd19_8 : decode zxm19.2.1 8 = .ok (.ifCond .ne 5, 3) := by decide +kernel
theorem zd19_11 : decode zxm19.2.1 11 = .ok (.iconst 0, 1) := by decide +kernel
theorem zd19_12 : decode zxm19.2.1 12 = .ok (.ireturn, 1) := by decide +kernel
theorem zd19_13 : decode zxm19.2.1 13 = .ok (.aload_n 0, 1) := by decide +kernel
theorem zd19_14 : decode zxm19.2.1 14 = .ok (.getfield 10, 3) := by decide +kernel
theorem zd19_17 : decode zxm19.2.1 17 = .ok (.dup, 1) := by decide +kernel
theorem zd19_18 : decode zxm19.2.1 18 = .ok (.getfield 134, 3) := by decide +kernel
theorem zd19_21 : decode zxm19.2.1 21 = .ok (.iconst 1, 1) := by decide +kernel
theorem zd19_22 : decode zxm19.2.1 22 = .ok (.iload_n 1, 1) := by decide +kernel
theorem zd19_23 : decode zxm19.2.1 23 = .ok (.ishl, 1) := by decide +kernel
theorem zd19_24 : decode zxm19.2.1 24 = .ok (.iconst (-1), 1) := by decide +kernel
theorem zd19_25 : decode zxm19.2.1 25 = .ok (.ixor, 1) := by decide +kernel
theorem zd19_26 : decode zxm19.2.1 26 = .ok (.iand, 1) := by decide +kernel
theorem zd19_27 : decode zxm19.2.1 27 = .ok (.putfield 134, 3) := by decide +kernel
theorem zd19_30 : decode zxm19.2.1 30 = .ok (.iconst 1, 1) := by decide +kernel
theorem zd19_31 : decode zxm19.2.1 31 = .ok (.ireturn, 1) := by decide +kernel
theorem zt_X_gone {x1 : Int} {f0 : Int} {o : Int × Int} (h : zf_X_gone x1 f0 = some o) : zv_Fn z_TB z_cl z_KX zy_X_gone zxm19 (1, 60) [.inr 0, .inl x1] [.inl f0] [] (some o.1) [.inl o.2] [] := zv_meth (K := (z_KF0, z_KC0, z_KL0, z_KT0, [], [], [], none)) (FT := z_FT) (MT := z_MT) (n := 2) zxp19 (z_ks0 _ (fun _ h => List.mem_cons_of_mem _ h) _ _ _ _ (fun j r h _ => by cases h)) (fun _ _ => zs_KX_p) zyw_X_gone (fun va F G h => by obtain ⟨rfl, _⟩ := h; rfl) (fun va F G h => by obtain ⟨rfl, _⟩ := h; rfl) rfl fun good va F G hB hret hvret hP => by
  obtain ⟨rfl, rfl, rfl⟩ := hP
  unfold zf_X_gone at h
  refine zv_ald hB zd19_0 rfl rfl rfl ?_
  refine zv_getr hB zd19_1 rfl ?_
  refine zv_ild hB zd19_4 rfl rfl ?_
  obtain ⟨r1, hr1, h⟩ := zi_bind h
  refine zv_cv hB (zv_emq (va2 := [.inr 1, .inl x1]) (F := [.inl f0]) (F' := [.inl f0]) (G := []) (G' := []) (ρ := [1]) (φ := [0]) (ψ := []) [some 0] [] zyw_Sky_hasStar zyw_X_gone zye_X_gone (by decide +kernel) (zt_Sky_hasStar hr1) ⟨⟨_, rfl, fun _ => rfl⟩, trivial⟩ trivial rfl rfl rfl rfl rfl rfl rfl) zd19_5 zxt18 rfl (by decide) (by decide) rfl ?_
  refine zv_zne hB zd19_8 rfl (fun hc2 => ?_) (fun hc2 => ?_)
  · rw [if_neg hc2] at h
    refine zv_ald hB zd19_13 rfl rfl rfl ?_
    refine zv_getr hB zd19_14 rfl ?_
    refine zv_dup hB zd19_17 rfl ?_
    refine zv_getf hB zd19_18 rfl rfl (fun _ _ => ?_)
    refine zv_con hB zd19_21 rfl ?_
    refine zv_ild hB zd19_22 rfl rfl ?_
    refine zv_shlw hB zd19_23 ?_
    refine zv_con hB zd19_24 rfl ?_
    refine zv_xorw hB zd19_25 ?_
    refine zv_andw hB zd19_26 ?_
    refine zv_putf hB zd19_27 rfl rfl (fun h => by cases h) rfl ?_
    refine zv_con hB zd19_30 rfl ?_
    have hw := Option.some.inj h
    subst hw
    exact hret _ _ _ _ _ zd19_31 (by constructor <;> decide) ⟨rfl, rfl, rfl⟩
  · rw [if_pos hc2] at h
    refine zv_con hB zd19_11 rfl ?_
    have hw := Option.some.inj h
    subst hw
    exact hret _ _ _ _ _ zd19_12 (by constructor <;> decide) ⟨rfl, rfl, rfl⟩
/-! X_hour (I)Z -/
-- names: 0 StarTales('arg', 0), 1 Sky(0, 0, 0)
-- fields: f0 = 1.hour_; arrays: ; out: [('ret', None), ('f', 0)]
abbrev zy_X_hour : zNL := (2, [(0, 0), (1, 1)], [(1, 1, 6, 0)], [(0, 0, 0, 1)], [])
theorem zyw_X_hour : zv_wf zy_X_hour = true := by decide +kernel
theorem zye_X_hour : zv_ek2 zy_X_hour = true := by decide +kernel
def zf_X_hour (x1 : Int) (f0 : Int) : Option (Int × Int) := (zf_X_isWithin x1 0 23).bind fun r1 => (if r1 = 0 then (some (0, f0)) else (some (1, x1)))
theorem zd20_0 : decode zxm20.2.1 0 = .ok (.iload_n 1, 1) := by decide +kernel
theorem zd20_1 : decode zxm20.2.1 1 = .ok (.iconst 0, 1) := by decide +kernel
theorem zd20_2 : decode zxm20.2.1 2 = .ok (.bipush 23, 2) := by decide +kernel
theorem zd20_4 : decode zxm20.2.1 4 = .ok (.invokestatic 126, 3) := by decide +kernel
theorem zd20_7 : decode zxm20.2.1 7 = .ok (.ifCond .ne 5, 3) := by decide +kernel
theorem zd20_10 : decode zxm20.2.1 10 = .ok (.iconst 0, 1) := by decide +kernel
theorem zd20_11 : decode zxm20.2.1 11 = .ok (.ireturn, 1) := by decide +kernel
theorem zd20_12 : decode zxm20.2.1 12 = .ok (.aload_n 0, 1) := by decide +kernel
theorem zd20_13 : decode zxm20.2.1 13 = .ok (.getfield 10, 3) := by decide +kernel
theorem zd20_16 : decode zxm20.2.1 16 = .ok (.iload_n 1, 1) := by decide +kernel
theorem zd20_17 : decode zxm20.2.1 17 = .ok (.putfield 157, 3) := by decide +kernel
theorem zd20_20 : decode zxm20.2.1 20 = .ok (.iconst 1, 1) := by decide +kernel
theorem zd20_21 : decode zxm20.2.1 21 = .ok (.ireturn, 1) := by decide +kernel
theorem zt_X_hour {x1 : Int} {f0 : Int} {o : Int × Int} (h : zf_X_hour x1 f0 = some o) : zv_Fn z_TB z_cl z_KX zy_X_hour zxm20 (1, 60) [.inr 0, .inl x1] [.inl f0] [] (some o.1) [.inl o.2] [] := zv_meth (K := (z_KF0, z_KC0, z_KL0, z_KT0, [], [], [], none)) (FT := z_FT) (MT := z_MT) (n := 2) zxp20 (z_ks0 _ (fun _ h => List.mem_cons_of_mem _ h) _ _ _ _ (fun j r h _ => by cases h)) (fun _ _ => zs_KX_p) zyw_X_hour (fun va F G h => by obtain ⟨rfl, _⟩ := h; rfl) (fun va F G h => by obtain ⟨rfl, _⟩ := h; rfl) rfl fun good va F G hB hret hvret hP => by
  obtain ⟨rfl, rfl, rfl⟩ := hP
  unfold zf_X_hour at h
  refine zv_ild hB zd20_0 rfl rfl ?_
  refine zv_con hB zd20_1 rfl ?_
  refine zv_con hB zd20_2 rfl ?_
  obtain ⟨r1, hr1, h⟩ := zi_bind h
  refine zv_cs hB (zv_emq (va2 := [.inl x1, .inl 0, .inl 23]) (F := [.inl f0]) (F' := [.inl f0]) (G := []) (G' := []) (ρ := []) (φ := []) (ψ := []) [none] [] zyw_X_isWithin zyw_X_hour zye_X_hour (by decide +kernel) (zt_X_isWithin hr1) trivial trivial rfl rfl rfl rfl rfl rfl rfl) zd20_4 zxt15 rfl (by decide) (by decide) rfl ?_
  refine zv_zne hB zd20_7 rfl (fun hc2 => ?_) (fun hc2 => ?_)
  · rw [if_neg hc2] at h
    refine zv_ald hB zd20_12 rfl rfl rfl ?_
    refine zv_getr hB zd20_13 rfl ?_
    refine zv_ild hB zd20_16 rfl rfl ?_
    refine zv_putf hB zd20_17 rfl rfl (fun h => by cases h) rfl ?_
    refine zv_con hB zd20_20 rfl ?_
    have hw := Option.some.inj h
    subst hw
    exact hret _ _ _ _ _ zd20_21 (by constructor <;> decide) ⟨rfl, rfl, rfl⟩
  · rw [if_pos hc2] at h
    refine zv_con hB zd20_10 rfl ?_
    have hw := Option.some.inj h
    subst hw
    exact hret _ _ _ _ _ zd20_11 (by constructor <;> decide) ⟨rfl, rfl, rfl⟩
/-! X_clouds (I)Z -/
-- names: 0 StarTales('arg', 0), 1 Sky(0, 0, 0)
-- fields: f0 = 1.clouds_; arrays: ; out: [('ret', None), ('f', 0)]
abbrev zy_X_clouds : zNL := (2, [(0, 0), (1, 1)], [(1, 1, 8, 0)], [(0, 0, 0, 1)], [])
theorem zyw_X_clouds : zv_wf zy_X_clouds = true := by decide +kernel
theorem zye_X_clouds : zv_ek2 zy_X_clouds = true := by decide +kernel
def zf_X_clouds (x1 : Int) (f0 : Int) : Option (Int × Int) := (zf_X_isWithin x1 0 16777215).bind fun r1 => (if r1 = 0 then (some (0, f0)) else (some (1, x1)))
theorem zd21_0 : decode zxm21.2.1 0 = .ok (.iload_n 1, 1) := by decide +kernel
theorem zd21_1 : decode zxm21.2.1 1 = .ok (.iconst 0, 1) := by decide +kernel
theorem zd21_2 : decode zxm21.2.1 2 = .ok (.ldc 160, 2) := by decide +kernel
theorem zd21_4 : decode zxm21.2.1 4 = .ok (.invokestatic 126, 3) := by decide +kernel
theorem zd21_7 : decode zxm21.2.1 7 = .ok (.ifCond .ne 5, 3) := by decide +kernel
theorem zd21_10 : decode zxm21.2.1 10 = .ok (.iconst 0, 1) := by decide +kernel
theorem zd21_11 : decode zxm21.2.1 11 = .ok (.ireturn, 1) := by decide +kernel
theorem zd21_12 : decode zxm21.2.1 12 = .ok (.aload_n 0, 1) := by decide +kernel
theorem zd21_13 : decode zxm21.2.1 13 = .ok (.getfield 10, 3) := by decide +kernel
theorem zd21_16 : decode zxm21.2.1 16 = .ok (.iload_n 1, 1) := by decide +kernel
theorem zd21_17 : decode zxm21.2.1 17 = .ok (.putfield 161, 3) := by decide +kernel
theorem zd21_20 : decode zxm21.2.1 20 = .ok (.iconst 1, 1) := by decide +kernel
theorem zd21_21 : decode zxm21.2.1 21 = .ok (.ireturn, 1) := by decide +kernel
theorem zt_X_clouds {x1 : Int} {f0 : Int} {o : Int × Int} (h : zf_X_clouds x1 f0 = some o) : zv_Fn z_TB z_cl z_KX zy_X_clouds zxm21 (1, 60) [.inr 0, .inl x1] [.inl f0] [] (some o.1) [.inl o.2] [] := zv_meth (K := (z_KF0, z_KC0, z_KL0, z_KT0, [], [], [], none)) (FT := z_FT) (MT := z_MT) (n := 2) zxp21 (z_ks0 _ (fun _ h => List.mem_cons_of_mem _ h) _ _ _ _ (fun j r h _ => by cases h)) (fun _ _ => zs_KX_p) zyw_X_clouds (fun va F G h => by obtain ⟨rfl, _⟩ := h; rfl) (fun va F G h => by obtain ⟨rfl, _⟩ := h; rfl) rfl fun good va F G hB hret hvret hP => by
  obtain ⟨rfl, rfl, rfl⟩ := hP
  unfold zf_X_clouds at h
  refine zv_ild hB zd21_0 rfl rfl ?_
  refine zv_con hB zd21_1 rfl ?_
  refine zv_con (n := 16777215) hB zd21_2 (by decide +kernel) ?_
  obtain ⟨r1, hr1, h⟩ := zi_bind h
  refine zv_cs hB (zv_emq (va2 := [.inl x1, .inl 0, .inl 16777215]) (F := [.inl f0]) (F' := [.inl f0]) (G := []) (G' := []) (ρ := []) (φ := []) (ψ := []) [none] [] zyw_X_isWithin zyw_X_clouds zye_X_clouds (by decide +kernel) (zt_X_isWithin hr1) trivial trivial rfl rfl rfl rfl rfl rfl rfl) zd21_4 zxt15 rfl (by decide) (by decide) rfl ?_
  refine zv_zne hB zd21_7 rfl (fun hc2 => ?_) (fun hc2 => ?_)
  · rw [if_neg hc2] at h
    refine zv_ald hB zd21_12 rfl rfl rfl ?_
    refine zv_getr hB zd21_13 rfl ?_
    refine zv_ild hB zd21_16 rfl rfl ?_
    refine zv_putf hB zd21_17 rfl rfl (fun h => by cases h) rfl ?_
    refine zv_con hB zd21_20 rfl ?_
    have hw := Option.some.inj h
    subst hw
    exact hret _ _ _ _ _ zd21_21 (by constructor <;> decide) ⟨rfl, rfl, rfl⟩
  · rw [if_pos hc2] at h
    refine zv_con hB zd21_10 rfl ?_
    have hw := Option.some.inj h
    subst hw
    exact hret _ _ _ _ _ zd21_11 (by constructor <;> decide) ⟨rfl, rfl, rfl⟩
/-! X_sight (II)Z -/
-- names: 0 StarTales('arg', 0), 1 Sky(0, 0, 0)
-- fields: f0 = 1.sightColumns_, f1 = 1.sightRows_; arrays: ; out: [('ret', None), ('f', 0), ('f', 1)]
abbrev zy_X_sight : zNL := (2, [(0, 0), (1, 1)], [(1, 1, 9, 0), (1, 1, 10, 1)], [(0, 0, 0, 1)], [])
theorem zyw_X_sight : zv_wf zy_X_sight = true := by decide +kernel
theorem zye_X_sight : zv_ek2 zy_X_sight = true := by decide +kernel
def zf_X_sight (x1 : Int) (x2 : Int) (f0 : Int) (f1 : Int) : Option (Int × Int × Int) := (zf_X_isWithin x1 0 11).bind fun r1 => (if r1 = 0 then (some (0, f0, f1)) else ((zf_X_isWithin x2 0 11).bind fun r3 => (if r3 = 0 then (some (0, f0, f1)) else (some (1, x1, x2)))))
theorem zd22_0 : decode zxm22.2.1 0 = .ok (.iload_n 1, 1) := by decide +kernel
theorem zd22_1 : decode zxm22.2.1 1 = .ok (.iconst 0, 1) := by decide +kernel
theorem zd22_2 : decode zxm22.2.1 2 = .ok (.bipush 11, 2) := by decide +kernel
theorem zd22_4 : decode zxm22.2.1 4 = .ok (.invokestatic 126, 3) := by decide +kernel
theorem zd22_7 : decode zxm22.2.1 7 = .ok (.ifCond .eq 13, 3) := by decide +kernel
theorem zd22_10 : decode zxm22.2.1 10 = .ok (.iload_n 2, 1) := by decide +kernel
theorem zd22_11 : decode zxm22.2.1 11 = .ok (.iconst 0, 1) := by decide +kernel
theorem zd22_12 : decode zxm22.2.1 12 = .ok (.bipush 11, 2) := by decide +kernel
theorem zd22_14 : decode zxm22.2.1 14 = .ok (.invokestatic 126, 3) := by decide +kernel
theorem zd22_17 : decode zxm22.2.1 17 = .ok (.ifCond .ne 5, 3) := by decide +kernel
theorem zd22_20 : decode zxm22.2.1 20 = .ok (.iconst 0, 1) := by decide +kernel
theorem zd22_21 : decode zxm22.2.1 21 = .ok (.ireturn, 1) := by decide +kernel
theorem zd22_22 : decode zxm22.2.1 22 = .ok (.aload_n 0, 1) := by decide +kernel
theorem zd22_23 : decode zxm22.2.1 23 = .ok (.getfield 10, 3) := by decide +kernel
theorem zd22_26 : decode zxm22.2.1 26 = .ok (.iload_n 1, 1) := by decide +kernel
theorem zd22_27 : decode zxm22.2.1 27 = .ok (.putfield 164, 3) := by decide +kernel
theorem zd22_30 : decode zxm22.2.1 30 = .ok (.aload_n 0, 1) := by decide +kernel
theorem zd22_31 : decode zxm22.2.1 31 = .ok (.getfield 10, 3) := by decide +kernel
theorem zd22_34 : decode zxm22.2.1 34 = .ok (.iload_n 2, 1) := by decide +kernel
theorem zd22_35 : decode zxm22.2.1 35 = .ok (.putfield 167, 3) := by decide +kernel
theorem zd22_38 : decode zxm22.2.1 38 = .ok (.iconst 1, 1) := by decide +kernel
theorem zd22_39 : decode zxm22.2.1 39 = .ok (.ireturn, 1) := by decide +kernel
theorem zt_X_sight {x1 : Int} {x2 : Int} {f0 : Int} {f1 : Int} {o : Int × Int × Int} (h : zf_X_sight x1 x2 f0 f1 = some o) : zv_Fn z_TB z_cl z_KX zy_X_sight zxm22 (1, 60) [.inr 0, .inl x1, .inl x2] [.inl f0, .inl f1] [] (some o.1) [.inl o.2.1, .inl o.2.2] [] := zv_meth (K := (z_KF0, z_KC0, z_KL0, z_KT0, [], [], [], none)) (FT := z_FT) (MT := z_MT) (n := 3) zxp22 (z_ks0 _ (fun _ h => List.mem_cons_of_mem _ h) _ _ _ _ (fun j r h _ => by cases h)) (fun _ _ => zs_KX_p) zyw_X_sight (fun va F G h => by obtain ⟨rfl, _⟩ := h; rfl) (fun va F G h => by obtain ⟨rfl, _⟩ := h; rfl) rfl fun good va F G hB hret hvret hP => by
  obtain ⟨rfl, rfl, rfl⟩ := hP
  unfold zf_X_sight at h
  refine zv_ild hB zd22_0 rfl rfl ?_
  refine zv_con hB zd22_1 rfl ?_
  refine zv_con hB zd22_2 rfl ?_
  obtain ⟨r1, hr1, h⟩ := zi_bind h
  refine zv_cs hB (zv_emq (va2 := [.inl x1, .inl 0, .inl 11]) (F := [.inl f0, .inl f1]) (F' := [.inl f0, .inl f1]) (G := []) (G' := []) (ρ := []) (φ := []) (ψ := []) [none, none] [] zyw_X_isWithin zyw_X_sight zye_X_sight (by decide +kernel) (zt_X_isWithin hr1) trivial trivial rfl rfl rfl rfl rfl rfl rfl) zd22_4 zxt15 rfl (by decide) (by decide) rfl ?_
  refine zv_zeq hB zd22_7 rfl (fun hc2 => ?_) (fun hc2 => ?_)
  · rw [if_pos hc2] at h
    refine zv_con hB zd22_20 rfl ?_
    have hw := Option.some.inj h
    subst hw
    exact hret _ _ _ _ _ zd22_21 (by constructor <;> decide) ⟨rfl, rfl, rfl⟩
  · rw [if_neg hc2] at h
    refine zv_ild hB zd22_10 rfl rfl ?_
    refine zv_con hB zd22_11 rfl ?_
    refine zv_con hB zd22_12 rfl ?_
    obtain ⟨r3, hr3, h⟩ := zi_bind h
    refine zv_cs hB (zv_emq (va2 := [.inl x2, .inl 0, .inl 11]) (F := [.inl f0, .inl f1]) (F' := [.inl f0, .inl f1]) (G := []) (G' := []) (ρ := []) (φ := []) (ψ := []) [none, none] [] zyw_X_isWithin zyw_X_sight zye_X_sight (by decide +kernel) (zt_X_isWithin hr3) trivial trivial rfl rfl rfl rfl rfl rfl rfl) zd22_14 zxt15 rfl (by decide) (by decide) rfl ?_
    refine zv_zne hB zd22_17 rfl (fun hc4 => ?_) (fun hc4 => ?_)
    · rw [if_neg hc4] at h
      refine zv_ald hB zd22_22 rfl rfl rfl ?_
      refine zv_getr hB zd22_23 rfl ?_
      refine zv_ild hB zd22_26 rfl rfl ?_
      refine zv_putf hB zd22_27 rfl rfl (fun h => by cases h) rfl ?_
      refine zv_ald hB zd22_30 rfl rfl rfl ?_
      refine zv_getr hB zd22_31 rfl ?_
      refine zv_ild hB zd22_34 rfl rfl ?_
      refine zv_putf hB zd22_35 rfl rfl (fun h => by cases h) rfl ?_
      refine zv_con hB zd22_38 rfl ?_
      have hw := Option.some.inj h
      subst hw
      exact hret _ _ _ _ _ zd22_39 (by constructor <;> decide) ⟨rfl, rfl, rfl⟩
    · rw [if_pos hc4] at h
      refine zv_con hB zd22_20 rfl ?_
      have hw := Option.some.inj h
      subst hw
      exact hret _ _ _ _ _ zd22_21 (by constructor <;> decide) ⟨rfl, rfl, rfl⟩
/-! X_placeOf (II)I -/
-- names: 
-- fields: ; arrays: ; out: [('ret', None)]
abbrev zy_X_placeOf : zNL := (0, [], [], [], [])
theorem zyw_X_placeOf : zv_wf zy_X_placeOf = true := by decide +kernel
theorem zye_X_placeOf : zv_ek2 zy_X_placeOf = true := by decide +kernel
def zf_X_placeOf (x0 : Int) (x1 : Int) : Option (Int) := some (zi_w ((zi_w (24 * x1)) + x0))
theorem zd24_0 : decode zxm24.2.1 0 = .ok (.bipush 24, 2) := by decide +kernel
theorem zd24_2 : decode zxm24.2.1 2 = .ok (.iload_n 1, 1) := by decide +kernel
theorem zd24_3 : decode zxm24.2.1 3 = .ok (.imul, 1) := by decide +kernel
theorem zd24_4 : decode zxm24.2.1 4 = .ok (.iload_n 0, 1) := by decide +kernel
theorem zd24_5 : decode zxm24.2.1 5 = .ok (.iadd, 1) := by decide +kernel
theorem zd24_6 : decode zxm24.2.1 6 = .ok (.ireturn, 1) := by decide +kernel
theorem zt_X_placeOf {x0 : Int} {x1 : Int} {o : Int} (h : zf_X_placeOf x0 x1 = some o) : zv_Fn z_TB z_cl z_KX zy_X_placeOf zxm24 (0, 0) [.inl x0, .inl x1] [] [] (some o) [] [] := zv_meth (K := (z_KF0, z_KC0, z_KL0, z_KT0, [], [], [], none)) (FT := z_FT) (MT := z_MT) (n := 2) zxp24 (z_ks0 _ (fun _ h => List.mem_cons_of_mem _ h) _ _ _ _ (fun j r h _ => by cases h)) (fun _ _ => zs_KX_p) zyw_X_placeOf (fun va F G h => by obtain ⟨rfl, _⟩ := h; rfl) (fun va F G h => by obtain ⟨rfl, _⟩ := h; rfl) rfl fun good va F G hB hret hvret hP => by
  obtain ⟨rfl, rfl, rfl⟩ := hP
  unfold zf_X_placeOf at h
  refine zv_con hB zd24_0 rfl ?_
  refine zv_ild hB zd24_2 rfl rfl ?_
  refine zv_mulw hB zd24_3 ?_
  refine zv_ild hB zd24_4 rfl rfl ?_
  refine zv_addw hB zd24_5 ?_
  have hw := Option.some.inj h
  subst hw
  exact hret _ _ _ _ _ zd24_6 (by trivial) ⟨rfl, rfl, rfl⟩
/-! Sea_hasShip (I)Z -/
-- names: 0 Sea('arg', 0)
-- fields: f0 = 0.shipsTold_; arrays: ; out: [('ret', None)]
abbrev zy_Sea_hasShip : zNL := (1, [(0, 2)], [(0, 2, 1, 0)], [], [])
theorem zyw_Sea_hasShip : zv_wf zy_Sea_hasShip = true := by decide +kernel
theorem zye_Sea_hasShip : zv_ek2 zy_Sea_hasShip = true := by decide +kernel
def zf_Sea_hasShip (x1 : Int) (f0 : Int) : Option (Int) := if x1 < 0 then (some 0) else (if x1 < 6 then (if (zi_and (zi_shr f0 x1) 1) = 0 then (some 0) else (some 1)) else (some 0))
theorem zd26_0 : decode zxm26.2.1 0 = .ok (.iload_n 1, 1) := by decide +kernel
theorem zd26_1 : decode zxm26.2.1 1 = .ok (.ifCond .lt 24, 3) := by decide +kernel
theorem zd26_4 : decode zxm26.2.1 4 = .ok (.iload_n 1, 1) := by decide +kernel
theorem zd26_5 : decode zxm26.2.1 5 = .ok (.bipush 6, 2) := by decide +kernel
theorem zd26_7 : decode zxm26.2.1 7 = .ok (.if_icmp .ge 18, 3) := by decide +kernel
theorem zd26_10 : decode zxm26.2.1 10 = .ok (.aload_n 0, 1) := by decide +kernel
theorem zd26_11 : decode zxm26.2.1 11 = .ok (.getfield 15, 3) := by decide +kernel
theorem zd26_14 : decode zxm26.2.1 14 = .ok (.iload_n 1, 1) := by decide +kernel
theorem zd26_15 : decode zxm26.2.1 15 = .ok (.ishr, 1) := by decide +kernel
theorem zd26_16 : decode zxm26.2.1 16 = .ok (.iconst 1, 1) := by decide +kernel
theorem zd26_17 : decode zxm26.2.1 17 = .ok (.iand, 1) := by decide +kernel
theorem zd26_18 : decode zxm26.2.1 18 = .ok (.ifCond .eq 7, 3) := by decide +kernel
theorem zd26_21 : decode zxm26.2.1 21 = .ok (.iconst 1, 1) := by decide +kernel
theorem zd26_22 : decode zxm26.2.1 22 = .ok (.goto 4, 3) := by decide +kernel
theorem zd26_25 : decode zxm26.2.1 25 = .ok (.iconst 0, 1) := by decide +kernel
theorem zd26_26 : decode zxm26.2.1 26 = .ok (.ireturn, 1) := by decide +kernel
theorem zt_Sea_hasShip {x1 : Int} {f0 : Int} {o : Int} (h : zf_Sea_hasShip x1 f0 = some o) : zv_Fn z_TB z_cl z_KX zy_Sea_hasShip zxm26 (0, 0) [.inr 0, .inl x1] [.inl f0] [] (some o) [.inl f0] [] := zv_meth (K := (z_KF7, z_KC7, z_KL7, z_KT7, [], [], [], none)) (FT := z_FT) (MT := z_MT) (n := 2) zxp26 (z_ks7 _ (fun _ h => List.mem_cons_of_mem _ h) _ _ _ _ (fun j r h _ => by cases h)) (fun _ _ => zs_KX_p) zyw_Sea_hasShip (fun va F G h => by obtain ⟨rfl, _⟩ := h; rfl) (fun va F G h => by obtain ⟨rfl, _⟩ := h; rfl) rfl fun good va F G hB hret hvret hP => by
  obtain ⟨rfl, rfl, rfl⟩ := hP
  unfold zf_Sea_hasShip at h
  refine zv_ild hB zd26_0 rfl rfl ?_
  refine zv_zlt hB zd26_1 rfl (fun hc1 => ?_) (fun hc1 => ?_)
  · rw [if_pos hc1] at h
    refine zv_con hB zd26_25 rfl ?_
    have hw := Option.some.inj h
    subst hw
    exact hret _ _ _ _ _ zd26_26 (by constructor <;> decide) ⟨rfl, rfl, rfl⟩
  · rw [if_neg (Int.not_lt.mpr hc1)] at h
    refine zv_ild hB zd26_4 rfl rfl ?_
    refine zv_con hB zd26_5 rfl ?_
    refine zv_cge hB zd26_7 rfl (fun hc2 => ?_) (fun hc2 => ?_)
    · rw [if_neg (Int.not_lt.mpr hc2)] at h
      refine zv_con hB zd26_25 rfl ?_
      have hw := Option.some.inj h
      subst hw
      exact hret _ _ _ _ _ zd26_26 (by constructor <;> decide) ⟨rfl, rfl, rfl⟩
    · rw [if_pos hc2] at h
      refine zv_ald hB zd26_10 rfl rfl rfl ?_
      refine zv_getf hB zd26_11 rfl rfl (fun _ _ => ?_)
      refine zv_ild hB zd26_14 rfl rfl ?_
      refine zv_shrw hB zd26_15 ?_
      refine zv_con hB zd26_16 rfl ?_
      refine zv_andw hB zd26_17 ?_
      refine zv_zeq hB zd26_18 rfl (fun hc3 => ?_) (fun hc3 => ?_)
      · rw [if_pos hc3] at h
        refine zv_con hB zd26_25 rfl ?_
        have hw := Option.some.inj h
        subst hw
        exact hret _ _ _ _ _ zd26_26 (by constructor <;> decide) ⟨rfl, rfl, rfl⟩
      · rw [if_neg hc3] at h
        refine zv_con hB zd26_21 rfl ?_
        refine zv_goto hB zd26_22 rfl ?_
        have hw := Option.some.inj h
        subst hw
        exact hret _ _ _ _ _ zd26_26 (by constructor <;> decide) ⟨rfl, rfl, rfl⟩
/-! Sea_hasShipAt (I)Z -/
-- names: 0 Sea('arg', 0), 1 (0, 6)(0, 2, 2)
-- fields: f0 = 0.shipsTold_; arrays: g0 = 1; out: [('ret', None)]
abbrev zy_Sea_hasShipAt : zNL := (2, [(0, 2)], [(0, 2, 1, 0)], [(0, 2, 2, 1)], [(1, 0, 6, 0)])
theorem zyw_Sea_hasShipAt : zv_wf zy_Sea_hasShipAt = true := by decide +kernel
theorem zye_Sea_hasShipAt : zv_ek2 zy_Sea_hasShipAt = true := by decide +kernel
def zf_Sea_hasShipAt_l0_b (x1 : Int) (f0 : Int) (g0 : (Int → Int)) (rec : Int → Option (((Unit) ⊕ (Int)))) (x2 : Int) : Option (((Unit) ⊕ (Int))) := if x2 < 6 then ((zf_Sea_hasShip x2 f0).bind fun r2 => (if r2 = 0 then (rec (zi_w (x2 + 1))) else (cond (zi_ix x2 6) (if (g0 x2) = x1 then (some (.inr 1)) else (rec (zi_w (x2 + 1)))) none))) else (some (.inl ()))
def zf_Sea_hasShipAt_l0 (x1 : Int) (f0 : Int) (g0 : (Int → Int)) : Nat → Int → Option (((Unit) ⊕ (Int)))
  | 0, _ => none
  | n + 1, x2 => zf_Sea_hasShipAt_l0_b x1 f0 g0 (zf_Sea_hasShipAt_l0 x1 f0 g0 n) x2
def zf_Sea_hasShipAt (x1 : Int) (f0 : Int) (g0 : (Int → Int)) : Option (Int) := (zf_Sea_hasShipAt_l0 x1 f0 g0 zi_fu 0).bind fun q6 => Sum.elim (fun e7 => (some 0)) (fun w8 => some w8) q6
theorem zd25_0 : decode zxm25.2.1 0 = .ok (.iconst 0, 1) := by decide +kernel
theorem zd25_1 : decode zxm25.2.1 1 = .ok (.istore_n 2, 1) := by decide +kernel
theorem zd25_2 : decode zxm25.2.1 2 = .ok (.iload_n 2, 1) := by decide +kernel
theorem zd25_3 : decode zxm25.2.1 3 = .ok (.bipush 6, 2) := by decide +kernel
theorem zd25_5 : decode zxm25.2.1 5 = .ok (.if_icmp .ge 29, 3) := by decide +kernel
theorem zd25_8 : decode zxm25.2.1 8 = .ok (.aload_n 0, 1) := by decide +kernel
theorem zd25_9 : decode zxm25.2.1 9 = .ok (.iload_n 2, 1) := by decide +kernel
theorem zd25_10 : decode zxm25.2.1 10 = .ok (.invokevirtual 34, 3) := by decide +kernel
theorem zd25_13 : decode zxm25.2.1 13 = .ok (.ifCond .eq 15, 3) := by decide +kernel
theorem zd25_16 : decode zxm25.2.1 16 = .ok (.aload_n 0, 1) := by decide +kernel
theorem zd25_17 : decode zxm25.2.1 17 = .ok (.getfield 19, 3) := by decide +kernel
theorem zd25_20 : decode zxm25.2.1 20 = .ok (.iload_n 2, 1) := by decide +kernel
theorem zd25_21 : decode zxm25.2.1 21 = .ok (.iaload, 1) := by decide +kernel
theorem zd25_22 : decode zxm25.2.1 22 = .ok (.iload_n 1, 1) := by decide +kernel
theorem zd25_23 : decode zxm25.2.1 23 = .ok (.if_icmp .ne 5, 3) := by decide +kernel
theorem zd25_26 : decode zxm25.2.1 26 = .ok (.iconst 1, 1) := by decide +kernel
theorem zd25_27 : decode zxm25.2.1 27 = .ok (.ireturn, 1) := by decide +kernel
theorem zd25_28 : decode zxm25.2.1 28 = .ok (.iinc 2 1, 3) := by decide +kernel
theorem zd25_31 : decode zxm25.2.1 31 = .ok (.goto (-29), 3) := by decide +kernel
theorem zd25_34 : decode zxm25.2.1 34 = .ok (.iconst 0, 1) := by decide +kernel
theorem zd25_35 : decode zxm25.2.1 35 = .ok (.ireturn, 1) := by decide +kernel
theorem zt_Sea_hasShipAt {x1 : Int} {f0 : Int} {g0 : (Int → Int)} {o : Int} (h : zf_Sea_hasShipAt x1 f0 g0 = some o) : zv_Fn z_TB z_cl z_KX zy_Sea_hasShipAt zxm25 (1, 60) [.inr 0, .inl x1] [.inl f0] [g0] (some o) [.inl f0] [g0] := zv_meth (K := (z_KF7, z_KC7, z_KL7, z_KT7, [], [], [], none)) (FT := z_FT) (MT := z_MT) (n := 2) zxp25 (z_ks7 _ (fun _ h => List.mem_cons_of_mem _ h) _ _ _ _ (fun j r h _ => by cases h)) (fun _ _ => zs_KX_p) zyw_Sea_hasShipAt (fun va F G h => by obtain ⟨rfl, _⟩ := h; rfl) (fun va F G h => by obtain ⟨rfl, _⟩ := h; rfl) rfl fun good va F G hB hret hvret hP => by
  obtain ⟨rfl, rfl, rfl⟩ := hP
  have l0 : ∀ (n : Nat) (x1 : Int) (x2 : Int) (q : ((Unit) ⊕ (Int))), zf_Sea_hasShipAt_l0 x1 f0 g0 n x2 = some q → (Sum.elim (fun e : Unit => good 34 [.inr 1000, .inr 1000, .inr 1000] [] [.inl f0] [g0]) (fun w : Int => w = o) q) → good 2 [.inr 0, .inl x1, .inl x2] [] [.inl f0] [g0] := by
    intro n
    induction n with
    | zero => intro x1 x2 q h; exact absurd (show none = some q from h) (fun h => by cases h)
    | succ n ih =>
      intro x1 x2 q h hK
      replace h : zf_Sea_hasShipAt_l0_b x1 f0 g0 (zf_Sea_hasShipAt_l0 x1 f0 g0 n) x2 = some q := h
      unfold zf_Sea_hasShipAt_l0_b at h
      refine zv_ild hB zd25_2 rfl rfl ?_
      refine zv_con hB zd25_3 rfl ?_
      refine zv_cge hB zd25_5 rfl (fun hc1 => ?_) (fun hc1 => ?_)
      · rw [if_neg (Int.not_lt.mpr hc1)] at h
        have hq := Option.some.inj h
        subst hq
        refine zv_wk hB (L' := [.inr 1000, .inr 1000, .inr 1000]) (F' := [.inl f0]) ⟨fun (h : zv_is (.inr 1000)) => (Nat.lt_irrefl 1000 h).elim, fun (h : zv_is (.inr 1000)) => (Nat.lt_irrefl 1000 h).elim, fun (h : zv_is (.inr 1000)) => (Nat.lt_irrefl 1000 h).elim, trivial⟩ ⟨fun _ => rfl, trivial⟩ ?_
        exact hK
      · rw [if_pos hc1] at h
        refine zv_ald hB zd25_8 rfl rfl rfl ?_
        refine zv_ild hB zd25_9 rfl rfl ?_
        obtain ⟨r2, hr2, h⟩ := zi_bind h
        refine zv_cv hB (zv_emq (va2 := [.inr 0, .inl x2]) (F := [.inl f0]) (F' := [.inl f0]) (G := [g0]) (G' := [g0]) (ρ := [0]) (φ := [0]) (ψ := []) [some 0] [none] zyw_Sea_hasShip zyw_Sea_hasShipAt zye_Sea_hasShipAt (by decide +kernel) (zt_Sea_hasShip hr2) ⟨⟨_, rfl, fun _ => rfl⟩, trivial⟩ trivial rfl rfl rfl rfl rfl rfl rfl) zd25_10 zxt26 rfl (by decide) (by decide) rfl ?_
        refine zv_zeq hB zd25_13 rfl (fun hc3 => ?_) (fun hc3 => ?_)
        · rw [if_pos hc3] at h
          refine zv_iincw hB zd25_28 rfl rfl ?_
          refine zv_goto hB zd25_31 rfl ?_
          exact ih _ _ q h hK
        · rw [if_neg hc3] at h
          refine zv_ald hB zd25_16 rfl rfl rfl ?_
          refine zv_getr hB zd25_17 rfl ?_
          refine zv_ild hB zd25_20 rfl rfl ?_
          obtain ⟨c4, h⟩ := zi_if h
          refine zv_iald hB zd25_21 rfl rfl (zi_ix_ok c4).1 (zi_ix_ok c4).2 (fun _ _ => ?_)
          refine zv_ild hB zd25_22 rfl rfl ?_
          refine zv_cne hB zd25_23 rfl (fun hc5 => ?_) (fun hc5 => ?_)
          · rw [if_neg hc5] at h
            refine zv_iincw hB zd25_28 rfl rfl ?_
            refine zv_goto hB zd25_31 rfl ?_
            exact ih _ _ q h hK
          · rw [if_pos hc5] at h
            refine zv_con hB zd25_26 rfl ?_
            have hw : 1 = o := zi_rk (Option.some.inj h) hK
            subst hw
            exact hret _ _ _ _ _ zd25_27 (by constructor <;> decide) ⟨rfl, rfl, rfl⟩
  unfold zf_Sea_hasShipAt at h
  refine zv_con hB zd25_0 rfl ?_
  refine zv_ist hB zd25_1 rfl rfl rfl ?_
  obtain ⟨q6, hq6, h⟩ := zi_bind h
  refine l0 _ _ _ q6 hq6 ?_
  rcases q6 with e7 | w8
  · replace h := zi_sl h
    show good 34 [.inr 1000, .inr 1000, .inr 1000] [] [.inl f0] [g0]
    refine zv_con hB zd25_34 rfl ?_
    have hw := Option.some.inj h
    subst hw
    exact hret _ _ _ _ _ zd25_35 (by constructor <;> decide) ⟨rfl, rfl, rfl⟩
  · exact Option.some.inj h
/-! Sea_setLand (IIZ)V -/
-- names: 0 Sea('arg', 0), 1 (0, 12)(0, 2, 0)
-- fields: ; arrays: g0 = 1; out: [('g', 0)]
abbrev zy_Sea_setLand : zNL := (2, [(0, 2)], [], [(0, 2, 0, 1)], [(1, 0, 12, 0)])
theorem zyw_Sea_setLand : zv_wf zy_Sea_setLand = true := by decide +kernel
theorem zye_Sea_setLand : zv_ek2 zy_Sea_setLand = true := by decide +kernel
def zf_Sea_setLand (x1 : Int) (x2 : Int) (x3 : Int) (g0 : (Int → Int)) : Option ((Int → Int)) := if x3 = 0 then (cond (zi_ix x2 12) (some (zv_up g0 x2 (zi_and (g0 x2) (zi_xor (zi_shl 1 x1) (-1))))) none) else (cond (zi_ix x2 12) (some (zv_up g0 x2 (zi_or (g0 x2) (zi_shl 1 x1)))) none)
theorem zd27_0 : decode zxm27.2.1 0 = .ok (.iload_n 3, 1) := by decide +kernel
theorem zd27_1 : decode zxm27.2.1 1 = .ok (.ifCond .eq 18, 3) := by decide +kernel
theorem zd27_4 : decode zxm27.2.1 4 = .ok (.aload_n 0, 1) := by decide +kernel
theorem zd27_5 : decode zxm27.2.1 5 = .ok (.getfield 9, 3) := by decide +kernel
theorem zd27_8 : decode zxm27.2.1 8 = .ok (.iload_n 2, 1) := by decide +kernel
theorem zd27_9 : decode zxm27.2.1 9 = .ok (.dup2, 1) := by decide +kernel
theorem zd27_10 : decode zxm27.2.1 10 = .ok (.iaload, 1) := by decide +kernel
theorem zd27_11 : decode zxm27.2.1 11 = .ok (.iconst 1, 1) := by decide +kernel
theorem zd27_12 : decode zxm27.2.1 12 = .ok (.iload_n 1, 1) := by decide +kernel
theorem zd27_13 : decode zxm27.2.1 13 = .ok (.ishl, 1) := by decide +kernel
theorem zd27_14 : decode zxm27.2.1 14 = .ok (.ior, 1) := by decide +kernel
theorem zd27_15 : decode zxm27.2.1 15 = .ok (.iastore, 1) := by decide +kernel
theorem zd27_16 : decode zxm27.2.1 16 = .ok (.goto 17, 3) := by decide +kernel
theorem zd27_19 : decode zxm27.2.1 19 = .ok (.aload_n 0, 1) := by decide +kernel
theorem zd27_20 : decode zxm27.2.1 20 = .ok (.getfield 9, 3) := by decide +kernel
theorem zd27_23 : decode zxm27.2.1 23 = .ok (.iload_n 2, 1) := by decide +kernel
theorem zd27_24 : decode zxm27.2.1 24 = .ok (.dup2, 1) := by decide +kernel
theorem zd27_25 : decode zxm27.2.1 25 = .ok (.iaload, 1) := by decide +kernel
theorem zd27_26 : decode zxm27.2.1 26 = .ok (.iconst 1, 1) := by decide +kernel
theorem zd27_27 : decode zxm27.2.1 27 = .ok (.iload_n 1, 1) := by decide +kernel
theorem zd27_28 : decode zxm27.2.1 28 = .ok (.ishl, 1) := by decide +kernel
theorem zd27_29 : decode zxm27.2.1 29 = .ok (.iconst (-1), 1) := by decide +kernel
theorem zd27_30 : decode zxm27.2.1 30 = .ok (.ixor, 1) := by decide +kernel
theorem zd27_31 : decode zxm27.2.1 31 = .ok (.iand, 1) := by decide +kernel
theorem zd27_32 : decode zxm27.2.1 32 = .ok (.iastore, 1) := by decide +kernel
theorem zd27_33 : decode zxm27.2.1 33 = .ok (.return_, 1) := by decide +kernel
theorem zt_Sea_setLand {x1 : Int} {x2 : Int} {x3 : Int} {g0 : (Int → Int)} {o : (Int → Int)} (h : zf_Sea_setLand x1 x2 x3 g0 = some o) : zv_Fn z_TB z_cl z_KX zy_Sea_setLand zxm27 (0, 0) [.inr 0, .inl x1, .inl x2, .inl x3] [] [g0] none [] [o] := zv_meth (K := (z_KF7, z_KC7, z_KL7, z_KT7, [], [], [], none)) (FT := z_FT) (MT := z_MT) (n := 4) zxp27 (z_ks7 _ (fun _ h => List.mem_cons_of_mem _ h) _ _ _ _ (fun j r h _ => by cases h)) (fun _ _ => zs_KX_p) zyw_Sea_setLand (fun va F G h => by obtain ⟨rfl, _⟩ := h; rfl) (fun va F G h => by obtain ⟨rfl, _⟩ := h; rfl) rfl fun good va F G hB hret hvret hP => by
  obtain ⟨rfl, rfl, rfl⟩ := hP
  unfold zf_Sea_setLand at h
  refine zv_ild hB zd27_0 rfl rfl ?_
  refine zv_zeq hB zd27_1 rfl (fun hc1 => ?_) (fun hc1 => ?_)
  · rw [if_pos hc1] at h
    refine zv_ald hB zd27_19 rfl rfl rfl ?_
    refine zv_getr hB zd27_20 rfl ?_
    refine zv_ild hB zd27_23 rfl rfl ?_
    refine zv_dup2 hB zd27_24 rfl rfl ?_
    obtain ⟨c2, h⟩ := zi_if h
    refine zv_iald hB zd27_25 rfl rfl (zi_ix_ok c2).1 (zi_ix_ok c2).2 (fun _ _ => ?_)
    refine zv_con hB zd27_26 rfl ?_
    refine zv_ild hB zd27_27 rfl rfl ?_
    refine zv_shlw hB zd27_28 ?_
    refine zv_con hB zd27_29 rfl ?_
    refine zv_xorw hB zd27_30 ?_
    refine zv_andw hB zd27_31 ?_
    refine zv_iast hB zd27_32 rfl rfl (zi_ix_ok c2).1 (zi_ix_ok c2).2 ?_
    have hw := Option.some.inj h
    subst hw
    exact hvret _ _ _ _ zd27_33 trivial ⟨rfl, rfl, rfl⟩
  · rw [if_neg hc1] at h
    refine zv_ald hB zd27_4 rfl rfl rfl ?_
    refine zv_getr hB zd27_5 rfl ?_
    refine zv_ild hB zd27_8 rfl rfl ?_
    refine zv_dup2 hB zd27_9 rfl rfl ?_
    obtain ⟨c3, h⟩ := zi_if h
    refine zv_iald hB zd27_10 rfl rfl (zi_ix_ok c3).1 (zi_ix_ok c3).2 (fun _ _ => ?_)
    refine zv_con hB zd27_11 rfl ?_
    refine zv_ild hB zd27_12 rfl rfl ?_
    refine zv_shlw hB zd27_13 ?_
    refine zv_orw hB zd27_14 ?_
    refine zv_iast hB zd27_15 rfl rfl (zi_ix_ok c3).1 (zi_ix_ok c3).2 ?_
    refine zv_goto hB zd27_16 rfl ?_
    have hw := Option.some.inj h
    subst hw
    exact hvret _ _ _ _ zd27_33 trivial ⟨rfl, rfl, rfl⟩
/-! X_land (IIZ)Z -/
-- names: 0 StarTales('arg', 0), 1 Sea(0, 0, 3), 2 (0, 6)(1, 2, 2), 3 (0, 12)(1, 2, 0)
-- fields: f0 = 1.shipsTold_; arrays: g0 = 2, g1 = 3; out: [('ret', None), ('g', 1)]
abbrev zy_X_land : zNL := (4, [(0, 0), (1, 2)], [(1, 2, 1, 0)], [(0, 0, 3, 1), (1, 2, 2, 2), (1, 2, 0, 3)], [(2, 0, 6, 0), (3, 0, 12, 1)])
theorem zyw_X_land : zv_wf zy_X_land = true := by decide +kernel
theorem zye_X_land : zv_ek2 zy_X_land = true := by decide +kernel
def zf_X_land (x1 : Int) (x2 : Int) (x3 : Int) (f0 : Int) (g0 : (Int → Int)) (g1 : (Int → Int)) : Option (Int × (Int → Int)) := (zf_X_isPlace x1 x2).bind fun r1 => (if r1 = 0 then (some (0, g1)) else ((zf_X_placeOf x1 x2).bind fun r3 => ((zf_Sea_hasShipAt r3 f0 g0).bind fun r4 => (if r4 = 0 then ((zf_Sea_setLand x1 x2 x3 g1).bind fun r6 => (some (1, r6))) else (some (0, g1))))))
theorem zd23_0 : decode zxm23.2.1 0 = .ok (.iload_n 1, 1) := by decide +kernel
theorem zd23_1 : decode zxm23.2.1 1 = .ok (.iload_n 2, 1) := by decide +kernel
theorem zd23_2 : decode zxm23.2.1 2 = .ok (.invokestatic 130, 3) := by decide +kernel
theorem zd23_5 : decode zxm23.2.1 5 = .ok (.ifCond .eq 18, 3) := by decide +kernel
theorem zd23_8 : decode zxm23.2.1 8 = .ok (.aload_n 0, 1) := by decide +kernel
theorem zd23_9 : decode zxm23.2.1 9 = .ok (.getfield 25, 3) := by decide +kernel
theorem zd23_12 : decode zxm23.2.1 12 = .ok (.iload_n 1, 1) := by decide +kernel
theorem zd23_13 : decode zxm23.2.1 13 = .ok (.iload_n 2, 1) := by decide +kernel
theorem zd23_14 : decode zxm23.2.1 14 = .ok (.invokestatic 170, 3) := by decide +kernel
theorem zd23_17 : decode zxm23.2.1 17 = .ok (.invokevirtual 174, 3) := by decide +kernel
theorem zd23_20 : decode zxm23.2.1 20 = .ok (.ifCond .eq 5, 3) := by decide +kernel
theorem zd23_23 : decode zxm23.2.1 23 = .ok (.iconst 0, 1) := by decide +kernel
theorem zd23_24 : decode zxm23.2.1 24 = .ok (.ireturn, 1) := by decide +kernel
theorem zd23_25 : decode zxm23.2.1 25 = .ok (.aload_n 0, 1) := by decide +kernel
theorem zd23_26 : decode zxm23.2.1 26 = .ok (.getfield 25, 3) := by decide +kernel
theorem zd23_29 : decode zxm23.2.1 29 = .ok (.iload_n 1, 1) := by decide +kernel
theorem zd23_30 : decode zxm23.2.1 30 = .ok (.iload_n 2, 1) := by decide +kernel
theorem zd23_31 : decode zxm23.2.1 31 = .ok (.iload_n 3, 1) := by decide +kernel
theorem zd23_32 : decode zxm23.2.1 32 = .ok (.invokevirtual 177, 3) := by decide +kernel
theorem zd23_35 : decode zxm23.2.1 35 = .ok (.iconst 1, 1) := by decide +kernel
theorem zd23_36 : decode zxm23.2.1 36 = .ok (.ireturn, 1) := by decide +kernel
theorem zt_X_land {x1 : Int} {x2 : Int} {x3 : Int} {f0 : Int} {g0 : (Int → Int)} {g1 : (Int → Int)} {o : Int × (Int → Int)} (h : zf_X_land x1 x2 x3 f0 g0 g1 = some o) : zv_Fn z_TB z_cl z_KX zy_X_land zxm23 (2, 120) [.inr 0, .inl x1, .inl x2, .inl x3] [.inl f0] [g0, g1] (some o.1) [.inl f0] [g0, o.2] := zv_meth (K := (z_KF0, z_KC0, z_KL0, z_KT0, [], [], [], none)) (FT := z_FT) (MT := z_MT) (n := 4) zxp23 (z_ks0 _ (fun _ h => List.mem_cons_of_mem _ h) _ _ _ _ (fun j r h _ => by cases h)) (fun _ _ => zs_KX_p) zyw_X_land (fun va F G h => by obtain ⟨rfl, _⟩ := h; rfl) (fun va F G h => by obtain ⟨rfl, _⟩ := h; rfl) rfl fun good va F G hB hret hvret hP => by
  obtain ⟨rfl, rfl, rfl⟩ := hP
  unfold zf_X_land at h
  refine zv_ild hB zd23_0 rfl rfl ?_
  refine zv_ild hB zd23_1 rfl rfl ?_
  obtain ⟨r1, hr1, h⟩ := zi_bind h
  refine zv_cs hB (zv_emq (va2 := [.inl x1, .inl x2]) (F := [.inl f0]) (F' := [.inl f0]) (G := [g0, g1]) (G' := [g0, g1]) (ρ := []) (φ := []) (ψ := []) [none] [none, none] zyw_X_isPlace zyw_X_land zye_X_land (by decide +kernel) (zt_X_isPlace hr1) trivial trivial rfl rfl rfl rfl rfl rfl rfl) zd23_2 zxt16 rfl (by decide) (by decide) rfl ?_
  refine zv_zeq hB zd23_5 rfl (fun hc2 => ?_) (fun hc2 => ?_)
  · rw [if_pos hc2] at h
    refine zv_con hB zd23_23 rfl ?_
    have hw := Option.some.inj h
    subst hw
    exact hret _ _ _ _ _ zd23_24 (by constructor <;> decide) ⟨rfl, rfl, rfl⟩
  · rw [if_neg hc2] at h
    refine zv_ald hB zd23_8 rfl rfl rfl ?_
    refine zv_getr hB zd23_9 rfl ?_
    refine zv_ild hB zd23_12 rfl rfl ?_
    refine zv_ild hB zd23_13 rfl rfl ?_
    obtain ⟨r3, hr3, h⟩ := zi_bind h
    refine zv_cs hB (zv_emq (va2 := [.inl x1, .inl x2]) (F := [.inl f0]) (F' := [.inl f0]) (G := [g0, g1]) (G' := [g0, g1]) (ρ := []) (φ := []) (ψ := []) [none] [none, none] zyw_X_placeOf zyw_X_land zye_X_land (by decide +kernel) (zt_X_placeOf hr3) trivial trivial rfl rfl rfl rfl rfl rfl rfl) zd23_14 zxt24 rfl (by decide) (by decide) rfl ?_
    obtain ⟨r4, hr4, h⟩ := zi_bind h
    refine zv_cv hB (zv_emq (va2 := [.inr 1, .inl r3]) (F := [.inl f0]) (F' := [.inl f0]) (G := [g0, g1]) (G' := [g0, g1]) (ρ := [1, 2]) (φ := [0]) (ψ := [0]) [some 0] [some 0, none] zyw_Sea_hasShipAt zyw_X_land zye_X_land (by decide +kernel) (zt_Sea_hasShipAt hr4) ⟨⟨_, rfl, fun _ => rfl⟩, trivial⟩ ⟨rfl, trivial⟩ rfl rfl rfl rfl rfl rfl rfl) zd23_17 zxt25 rfl (by decide) (by decide) rfl ?_
    refine zv_zeq hB zd23_20 rfl (fun hc5 => ?_) (fun hc5 => ?_)
    · rw [if_pos hc5] at h
      refine zv_ald hB zd23_25 rfl rfl rfl ?_
      refine zv_getr hB zd23_26 rfl ?_
      refine zv_ild hB zd23_29 rfl rfl ?_
      refine zv_ild hB zd23_30 rfl rfl ?_
      refine zv_ild hB zd23_31 rfl rfl ?_
      obtain ⟨r6, hr6, h⟩ := zi_bind h
      refine zv_cv hB (zv_emq (va2 := [.inr 1, .inl x1, .inl x2, .inl x3]) (F := [.inl f0]) (F' := [.inl f0]) (G := [g0, g1]) (G' := [g0, r6]) (ρ := [1, 3]) (φ := []) (ψ := [1]) [none] [none, some 0] zyw_Sea_setLand zyw_X_land zye_X_land (by decide +kernel) (zt_Sea_setLand hr6) trivial ⟨rfl, trivial⟩ rfl rfl rfl rfl rfl rfl rfl) zd23_32 zxt27 rfl (by decide) (by decide) rfl ?_
      refine zv_con hB zd23_35 rfl ?_
      have hw := Option.some.inj h
      subst hw
      exact hret _ _ _ _ _ zd23_36 (by constructor <;> decide) ⟨rfl, rfl, rfl⟩
    · rw [if_neg hc5] at h
      refine zv_con hB zd23_23 rfl ?_
      have hw := Option.some.inj h
      subst hw
      exact hret _ _ _ _ _ zd23_24 (by constructor <;> decide) ⟨rfl, rfl, rfl⟩
/-! X_rowOf (I)I -/
-- names: 
-- fields: ; arrays: ; out: [('ret', None)]
abbrev zy_X_rowOf : zNL := (0, [], [], [], [])
theorem zyw_X_rowOf : zv_wf zy_X_rowOf = true := by decide +kernel
theorem zye_X_rowOf : zv_ek2 zy_X_rowOf = true := by decide +kernel
def zf_X_rowOf (x0 : Int) : Option (Int) := some (zi_div x0 24)
theorem zd30_0 : decode zxm30.2.1 0 = .ok (.iload_n 0, 1) := by decide +kernel
theorem zd30_1 : decode zxm30.2.1 1 = .ok (.bipush 24, 2) := by decide +kernel
theorem zd30_3 : decode zxm30.2.1 3 = .ok (.idiv, 1) := by decide +kernel
theorem zd30_4 : decode zxm30.2.1 4 = .ok (.ireturn, 1) := by decide +kernel
theorem zt_X_rowOf {x0 : Int} {o : Int} (h : zf_X_rowOf x0 = some o) : zv_Fn z_TB z_cl z_KX zy_X_rowOf zxm30 (0, 0) [.inl x0] [] [] (some o) [] [] := zv_meth (K := (z_KF0, z_KC0, z_KL0, z_KT0, [], [], [], none)) (FT := z_FT) (MT := z_MT) (n := 1) zxp30 (z_ks0 _ (fun _ h => List.mem_cons_of_mem _ h) _ _ _ _ (fun j r h _ => by cases h)) (fun _ _ => zs_KX_p) zyw_X_rowOf (fun va F G h => by obtain ⟨rfl, _⟩ := h; rfl) (fun va F G h => by obtain ⟨rfl, _⟩ := h; rfl) rfl fun good va F G hB hret hvret hP => by
  obtain ⟨rfl, rfl, rfl⟩ := hP
  unfold zf_X_rowOf at h
  refine zv_ild hB zd30_0 rfl rfl ?_
  refine zv_con hB zd30_1 rfl ?_
  refine zv_divw hB zd30_3 (by decide) ?_
  have hw := Option.some.inj h
  subst hw
  exact hret _ _ _ _ _ zd30_4 (by trivial) ⟨rfl, rfl, rfl⟩
