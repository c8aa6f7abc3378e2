/-! Methods as functions, and that they do what these do. -/
/-! X_sold (II)I -/
-- names: 0 StarTales('arg', 0), 1 Chooser(0, 0, 17), 2 Sky(0, 0, 0), 3 Law(0, 0, 7), 4 (0, 13)(3, 4, 12), 5 (0, 24)(1, 11, 3), 6 (0, 24)(1, 11, 4), 7 (0, 24)(2, 1, 3), 8 (0, 24)(2, 1, 2), 9 (0, 24)(2, 1, 1), 10 (0, 14)(3, 4, 3), 11 (0, 14)(3, 4, 5), 12 (0, 14)(3, 4, 6), 13 (0, 200)(3, 4, 0), 14 (0, 40)(3, 4, 13), 15 (0, 200)(3, 4, 1), 16 (0, 14)(3, 4, 4), 17 (0, 1000)(1, 11, 5), 18 (0, 1000)(1, 11, 6)
-- fields: f0 = 0.ruling_, f1 = 2.hour_, f2 = 2.night_, f3 = 2.told_, f4 = 3.clauses_, f5 = 3.answer_; arrays: g0 = 4, g1 = 5, g2 = 6, g3 = 7, g4 = 8, g5 = 9, g6 = 10, g7 = 11, g8 = 12, g9 = 13, g10 = 14, g11 = 15, g12 = 16, g13 = 17, g14 = 18; out: [('ret', None), ('f', 5), ('g', 0), ('g', 1), ('g', 2), ('g', 10), ('g', 13), ('g', 14)]
abbrev zy_X_sold : zNL := (19, [(0, 0), (1, 11), (2, 1), (3, 4)], [(0, 0, 7, 0), (2, 1, 6, 1), (2, 1, 7, 2), (2, 1, 0, 3), (3, 4, 7, 4), (3, 4, 14, 5)], [(0, 0, 17, 1), (0, 0, 0, 2), (3, 4, 12, 4), (1, 11, 3, 5), (1, 11, 4, 6), (2, 1, 3, 7), (2, 1, 2, 8), (2, 1, 1, 9), (3, 4, 3, 10), (3, 4, 5, 11), (3, 4, 6, 12), (3, 4, 0, 13), (3, 4, 13, 14), (3, 4, 1, 15), (3, 4, 4, 16), (1, 11, 5, 17), (1, 11, 6, 18)], [(4, 0, 13, 0), (5, 0, 24, 1), (6, 0, 24, 2), (7, 0, 24, 3), (8, 0, 24, 4), (9, 0, 24, 5), (10, 0, 14, 6), (11, 0, 14, 7), (12, 0, 14, 8), (13, 0, 200, 9), (14, 0, 40, 10), (15, 0, 200, 11), (16, 0, 14, 12), (17, 0, 1000, 13), (18, 0, 1000, 14)])
theorem zyw_X_sold : zv_wf zy_X_sold = true := by decide +kernel
theorem zye_X_sold : zv_ek2 zy_X_sold = true := by decide +kernel
def zf_X_sold (x1 : Int) (x2 : Int) (f1 : Int) (f2 : Int) (f3 : Int) (f4 : Int) (f5 : Int) (g0 : (Int → Int)) (g1 : (Int → Int)) (g2 : (Int → Int)) (g3 : (Int → Int)) (g4 : (Int → Int)) (g5 : (Int → Int)) (g6 : (Int → Int)) (g7 : (Int → Int)) (g8 : (Int → Int)) (g9 : (Int → Int)) (g10 : (Int → Int)) (g11 : (Int → Int)) (g12 : (Int → Int)) (g13 : (Int → Int)) (g14 : (Int → Int)) : Option (Int × Int × (Int → Int) × (Int → Int) × (Int → Int) × (Int → Int) × (Int → Int) × (Int → Int)) := (zf_X_isWithin x1 0 999).bind fun r1 => (if r1 = 0 then (some ((-1), f5, g0, g1, g2, g10, g13, g14)) else ((zf_X_isWithin x2 0 2).bind fun r3 => (if r3 = 0 then (some ((-1), f5, g0, g1, g2, g10, g13, g14)) else ((zf_Chooser_weighStars f1 f2 f3 f4 f5 g0 g1 g2 g3 g4 g5 g6 g7 g8 g9 g10 g11 g12).bind fun r5 => ((zf_Chooser_bestSold f3 x1 g13 g14 r5.2.2.1 r5.2.2.2.1).bind fun r6 => (if x2 = 0 then ((zf_Chooser_worthOf r6.1 r5.2.2.1).bind fun r8 => (some (r8, r5.1, r5.2.1, r5.2.2.1, r5.2.2.2.1, r5.2.2.2.2, r6.2.1, r6.2.2))) else (if x2 = 1 then (some (r6.1, r5.1, r5.2.1, r5.2.2.1, r5.2.2.2.1, r5.2.2.2.2, r6.2.1, r6.2.2)) else ((zf_Chooser_weightOf r6.1 r5.2.2.2.1).bind fun r10 => (some (r10, r5.1, r5.2.1, r5.2.2.1, r5.2.2.2.1, r5.2.2.2.2, r6.2.1, r6.2.2))))))))))
theorem zd144_0 : decode zxm144.2.1 0 = .ok (.iload_n 1, 1) := by decide +kernel
theorem zd144_1 : decode zxm144.2.1 1 = .ok (.iconst 0, 1) := by decide +kernel
theorem zd144_2 : decode zxm144.2.1 2 = .ok (.sipush 999, 3) := by decide +kernel
theorem zd144_5 : decode zxm144.2.1 5 = .ok (.invokestatic 126, 3) := by decide +kernel
theorem zd144_8 : decode zxm144.2.1 8 = .ok (.ifCond .eq 12, 3) := by decide +kernel
theorem zd144_11 : decode zxm144.2.1 11 = .ok (.iload_n 2, 1) := by decide +kernel
theorem zd144_12 : decode zxm144.2.1 12 = .ok (.iconst 0, 1) := by decide +kernel
theorem zd144_13 : decode zxm144.2.1 13 = .ok (.iconst 2, 1) := by decide +kernel
theorem zd144_14 : decode zxm144.2.1 14 = .ok (.invokestatic 126, 3) := by decide +kernel
theorem zd144_17 : decode zxm144.2.1 17 = .ok (.ifCond .ne 5, 3) := by decide +kernel
theorem zd144_20 : decode zxm144.2.1 20 = .ok (.iconst (-1), 1) := by decide +kernel
theorem zd144_21 : decode zxm144.2.1 21 = .ok (.ireturn, 1) := by decide +kernel
theorem zd144_22 : decode zxm144.2.1 22 = .ok (.aload_n 0, 1) := by decide +kernel
theorem zd144_23 : decode zxm144.2.1 23 = .ok (.getfield 119, 3) := by decide +kernel
theorem zd144_26 : decode zxm144.2.1 26 = .ok (.aload_n 0, 1) := by decide +kernel
theorem zd144_27 : decode zxm144.2.1 27 = .ok (.getfield 10, 3) := by decide +kernel
theorem zd144_30 : decode zxm144.2.1 30 = .ok (.aload_n 0, 1) := by decide +kernel
theorem zd144_31 : decode zxm144.2.1 31 = .ok (.getfield 46, 3) := by decide +kernel
theorem zd144_34 : decode zxm144.2.1 34 = .ok (.invokevirtual 311, 3) := by decide +kernel
theorem zd144_37 : decode zxm144.2.1 37 = .ok (.aload_n 0, 1) := by decide +kernel
theorem zd144_38 : decode zxm144.2.1 38 = .ok (.getfield 119, 3) := by decide +kernel
theorem zd144_41 : decode zxm144.2.1 41 = .ok (.aload_n 0, 1) := by decide +kernel
theorem zd144_42 : decode zxm144.2.1 42 = .ok (.getfield 10, 3) := by decide +kernel
theorem zd144_45 : decode zxm144.2.1 45 = .ok (.getfield 134, 3) := by decide +kernel
theorem zd144_48 : decode zxm144.2.1 48 = .ok (.iload_n 1, 1) := by decide +kernel
theorem zd144_49 : decode zxm144.2.1 49 = .ok (.invokevirtual 314, 3) := by decide +kernel
theorem zd144_52 : decode zxm144.2.1 52 = .ok (.istore_n 3, 1) := by decide +kernel
theorem zd144_53 : decode zxm144.2.1 53 = .ok (.iload_n 2, 1) := by decide +kernel
theorem zd144_54 : decode zxm144.2.1 54 = .ok (.lookupswitch 37 #[(0, 26), (1, 35)], 26) := by decide +kernel
theorem zd144_80 : decode zxm144.2.1 80 = .ok (.aload_n 0, 1) := by decide +kernel
theorem zd144_81 : decode zxm144.2.1 81 = .ok (.getfield 119, 3) := by decide +kernel
theorem zd144_84 : decode zxm144.2.1 84 = .ok (.iload_n 3, 1) := by decide +kernel
theorem zd144_85 : decode zxm144.2.1 85 = .ok (.invokevirtual 317, 3) := by decide +kernel
theorem zd144_88 : decode zxm144.2.1 88 = .ok (.ireturn, 1) := by decide +kernel
theorem zd144_89 : decode zxm144.2.1 89 = .ok (.iload_n 3, 1) := by decide +kernel
theorem zd144_90 : decode zxm144.2.1 90 = .ok (.ireturn, 1) := by decide +kernel
theorem zd144_91 : decode zxm144.2.1 91 = .ok (.aload_n 0, 1) := by decide +kernel
theorem zd144_92 : decode zxm144.2.1 92 = .ok (.getfield 119, 3) := by decide +kernel
theorem zd144_95 : decode zxm144.2.1 95 = .ok (.iload_n 3, 1) := by decide +kernel
theorem zd144_96 : decode zxm144.2.1 96 = .ok (.invokevirtual 320, 3) := by decide +kernel
theorem zd144_99 : decode zxm144.2.1 99 = .ok (.ireturn, 1) := by decide +kernel
theorem zt_X_sold {x1 : Int} {x2 : Int} {f1 : Int} {f2 : Int} {f3 : Int} {f4 : Int} {f5 : Int} {g0 : (Int → Int)} {g1 : (Int → Int)} {g2 : (Int → Int)} {g3 : (Int → Int)} {g4 : (Int → Int)} {g5 : (Int → Int)} {g6 : (Int → Int)} {g7 : (Int → Int)} {g8 : (Int → Int)} {g9 : (Int → Int)} {g10 : (Int → Int)} {g11 : (Int → Int)} {g12 : (Int → Int)} {g13 : (Int → Int)} {g14 : (Int → Int)} {o : Int × Int × (Int → Int) × (Int → Int) × (Int → Int) × (Int → Int) × (Int → Int) × (Int → Int)} (h : zf_X_sold x1 x2 f1 f2 f3 f4 f5 g0 g1 g2 g3 g4 g5 g6 g7 g8 g9 g10 g11 g12 g13 g14 = some o) : zv_Fn z_TB z_cl z_KX zy_X_sold zxm144 (4, 240) [.inr 0, .inl x1, .inl x2] [.inr 3, .inl f1, .inl f2, .inl f3, .inl f4, .inl f5] [g0, g1, g2, g3, g4, g5, g6, g7, g8, g9, g10, g11, g12, g13, g14] (some o.1) [.inr 3, .inl f1, .inl f2, .inl f3, .inl f4, .inl o.2.1] [o.2.2.1, o.2.2.2.1, o.2.2.2.2.1, g3, g4, g5, g6, g7, g8, g9, o.2.2.2.2.2.1, g11, g12, o.2.2.2.2.2.2.1, o.2.2.2.2.2.2.2] := zv_meth (K := (z_KF0, z_KC0, z_KL0, z_KT0, [], [], [], none)) (FT := z_FT) (MT := z_MT) (n := 3) zxp144 (z_ks0 _ (fun _ h => List.mem_cons_of_mem _ h) _ _ _ _ (fun j r h _ => by cases h)) (fun _ _ => zs_KX_p) zyw_X_sold (fun va F G h => by obtain ⟨rfl, _⟩ := h; rfl) (fun va F G h => by obtain ⟨rfl, _⟩ := h; rfl) rfl fun good va F G hB hret hvret hP => by
  obtain ⟨rfl, rfl, rfl⟩ := hP
  unfold zf_X_sold at h
  refine zv_ild hB zd144_0 rfl rfl ?_
  refine zv_con hB zd144_1 rfl ?_
  refine zv_con hB zd144_2 rfl ?_
  obtain ⟨r1, hr1, h⟩ := zi_bind h
  refine zv_cs hB (zv_emq (va2 := [.inl x1, .inl 0, .inl 999]) (F := [.inr 3, .inl f1, .inl f2, .inl f3, .inl f4, .inl f5]) (F' := [.inr 3, .inl f1, .inl f2, .inl f3, .inl f4, .inl f5]) (G := [g0, g1, g2, g3, g4, g5, g6, g7, g8, g9, g10, g11, g12, g13, g14]) (G' := [g0, g1, g2, g3, g4, g5, g6, g7, g8, g9, g10, g11, g12, g13, g14]) (ρ := []) (φ := []) (ψ := []) [none, none, none, none, none, none] [none, none, none, none, none, none, none, none, none, none, none, none, none, none, none] zyw_X_isWithin zyw_X_sold zye_X_sold (by decide +kernel) (zt_X_isWithin hr1) trivial trivial rfl rfl rfl rfl rfl rfl rfl) zd144_5 zxt15 rfl (by decide) (by decide) rfl ?_
  refine zv_zeq hB zd144_8 rfl (fun hc2 => ?_) (fun hc2 => ?_)
  · rw [if_pos hc2] at h
    refine zv_con hB zd144_20 rfl ?_
    have hw := Option.some.inj h
    subst hw
    exact hret _ _ _ _ _ zd144_21 (by trivial) ⟨rfl, rfl, rfl⟩
  · rw [if_neg hc2] at h
    refine zv_ild hB zd144_11 rfl rfl ?_
    refine zv_con hB zd144_12 rfl ?_
    refine zv_con hB zd144_13 rfl ?_
    obtain ⟨r3, hr3, h⟩ := zi_bind h
    refine zv_cs hB (zv_emq (va2 := [.inl x2, .inl 0, .inl 2]) (F := [.inr 3, .inl f1, .inl f2, .inl f3, .inl f4, .inl f5]) (F' := [.inr 3, .inl f1, .inl f2, .inl f3, .inl f4, .inl f5]) (G := [g0, g1, g2, g3, g4, g5, g6, g7, g8, g9, g10, g11, g12, g13, g14]) (G' := [g0, g1, g2, g3, g4, g5, g6, g7, g8, g9, g10, g11, g12, g13, g14]) (ρ := []) (φ := []) (ψ := []) [none, none, none, none, none, none] [none, none, none, none, none, none, none, none, none, none, none, none, none, none, none] zyw_X_isWithin zyw_X_sold zye_X_sold (by decide +kernel) (zt_X_isWithin hr3) trivial trivial rfl rfl rfl rfl rfl rfl rfl) zd144_14 zxt15 rfl (by decide) (by decide) rfl ?_
    refine zv_zne hB zd144_17 rfl (fun hc4 => ?_) (fun hc4 => ?_)
    · rw [if_neg hc4] at h
      refine zv_ald hB zd144_22 rfl rfl rfl ?_
      refine zv_getr hB zd144_23 rfl ?_
      refine zv_ald hB zd144_26 rfl rfl rfl ?_
      refine zv_getr hB zd144_27 rfl ?_
      refine zv_ald hB zd144_30 rfl rfl rfl ?_
      refine zv_getq hB zd144_31 rfl rfl rfl ?_
      obtain ⟨r5, hr5, h⟩ := zi_bind h
      refine zv_cv hB (zv_emq (va2 := [.inr 1, .inr 2, .inr 3]) (F := [.inr 3, .inl f1, .inl f2, .inl f3, .inl f4, .inl f5]) (F' := [.inr 3, .inl f1, .inl f2, .inl f3, .inl f4, .inl r5.1]) (G := [g0, g1, g2, g3, g4, g5, g6, g7, g8, g9, g10, g11, g12, g13, g14]) (G' := [r5.2.1, r5.2.2.1, r5.2.2.2.1, g3, g4, g5, g6, g7, g8, g9, r5.2.2.2.2, g11, g12, g13, g14]) (ρ := [1, 2, 3, 4, 5, 6, 7, 8, 9, 10, 11, 12, 13, 14, 15, 16]) (φ := [1, 2, 3, 4, 5]) (ψ := [0, 1, 2, 3, 4, 5, 6, 7, 8, 9, 10, 11, 12]) [none, some 0, some 1, some 2, some 3, some 4] [some 0, some 1, some 2, some 3, some 4, some 5, some 6, some 7, some 8, some 9, some 10, some 11, some 12, none, none] zyw_Chooser_weighStars zyw_X_sold zye_X_sold (by decide +kernel) (zt_Chooser_weighStars hr5) ⟨⟨_, rfl, fun _ => rfl⟩, ⟨_, rfl, fun _ => rfl⟩, ⟨_, rfl, fun _ => rfl⟩, ⟨_, rfl, fun _ => rfl⟩, ⟨_, rfl, fun _ => rfl⟩, trivial⟩ ⟨rfl, rfl, rfl, rfl, rfl, rfl, rfl, rfl, rfl, rfl, rfl, rfl, rfl, trivial⟩ rfl rfl rfl rfl rfl rfl rfl) zd144_34 zxt145 rfl (by decide) (by decide) rfl ?_
      refine zv_ald hB zd144_37 rfl rfl rfl ?_
      refine zv_getr hB zd144_38 rfl ?_
      refine zv_ald hB zd144_41 rfl rfl rfl ?_
      refine zv_getr hB zd144_42 rfl ?_
      refine zv_getf hB zd144_45 rfl rfl (fun _ _ => ?_)
      refine zv_ild hB zd144_48 rfl rfl ?_
      obtain ⟨r6, hr6, h⟩ := zi_bind h
      refine zv_cv hB (zv_emq (va2 := [.inr 1, .inl f3, .inl x1]) (F := [.inr 3, .inl f1, .inl f2, .inl f3, .inl f4, .inl r5.1]) (F' := [.inr 3, .inl f1, .inl f2, .inl f3, .inl f4, .inl r5.1]) (G := [r5.2.1, r5.2.2.1, r5.2.2.2.1, g3, g4, g5, g6, g7, g8, g9, r5.2.2.2.2, g11, g12, g13, g14]) (G' := [r5.2.1, r5.2.2.1, r5.2.2.2.1, g3, g4, g5, g6, g7, g8, g9, r5.2.2.2.2, g11, g12, r6.2.1, r6.2.2]) (ρ := [1, 17, 18, 5, 6]) (φ := []) (ψ := [13, 14, 1, 2]) [none, none, none, none, none, none] [none, some 2, some 3, none, none, none, none, none, none, none, none, none, none, some 0, some 1] zyw_Chooser_bestSold zyw_X_sold zye_X_sold (by decide +kernel) (zt_Chooser_bestSold hr6) trivial ⟨rfl, rfl, rfl, rfl, trivial⟩ rfl rfl rfl rfl rfl rfl rfl) zd144_49 zxt147 rfl (by decide) (by decide) rfl ?_
      refine zv_ist hB zd144_52 rfl rfl rfl ?_
      refine zv_ild hB zd144_53 rfl rfl ?_
      refine zv_lsw hB zd144_54 rfl ?_
      refine ⟨fun hc7 => ⟨_, rfl, ?_⟩, fun hc7 => ?_⟩
      · replace hc7 : x2 = 0 := hc7
        rw [if_pos hc7] at h
        refine zv_ald hB zd144_80 rfl rfl rfl ?_
        refine zv_getr hB zd144_81 rfl ?_
        refine zv_ild hB zd144_84 rfl rfl ?_
        obtain ⟨r8, hr8, h⟩ := zi_bind h
        refine zv_cv hB (zv_emq (va2 := [.inr 1, .inl r6.1]) (F := [.inr 3, .inl f1, .inl f2, .inl f3, .inl f4, .inl r5.1]) (F' := [.inr 3, .inl f1, .inl f2, .inl f3, .inl f4, .inl r5.1]) (G := [r5.2.1, r5.2.2.1, r5.2.2.2.1, g3, g4, g5, g6, g7, g8, g9, r5.2.2.2.2, g11, g12, r6.2.1, r6.2.2]) (G' := [r5.2.1, r5.2.2.1, r5.2.2.2.1, g3, g4, g5, g6, g7, g8, g9, r5.2.2.2.2, g11, g12, r6.2.1, r6.2.2]) (ρ := [1, 5]) (φ := []) (ψ := [1]) [none, none, none, none, none, none] [none, some 0, none, none, none, none, none, none, none, none, none, none, none, none, none] zyw_Chooser_worthOf zyw_X_sold zye_X_sold (by decide +kernel) (zt_Chooser_worthOf hr8) trivial ⟨rfl, trivial⟩ rfl rfl rfl rfl rfl rfl rfl) zd144_85 zxt149 rfl (by decide) (by decide) rfl ?_
        have hw := Option.some.inj h
        subst hw
        exact hret _ _ _ _ _ zd144_88 (by trivial) ⟨rfl, rfl, rfl⟩
      replace hc7 : x2 ≠ 0 := hc7
      rw [if_neg hc7] at h
      refine ⟨fun hc9 => ⟨_, rfl, ?_⟩, fun hc9 => ?_⟩
      · replace hc9 : x2 = 1 := hc9
        rw [if_pos hc9] at h
        refine zv_ild hB zd144_89 rfl rfl ?_
        have hw := Option.some.inj h
        subst hw
        exact hret _ _ _ _ _ zd144_90 (by trivial) ⟨rfl, rfl, rfl⟩
      replace hc9 : x2 ≠ 1 := hc9
      rw [if_neg hc9] at h
      refine ⟨_, rfl, ?_⟩
      refine zv_ald hB zd144_91 rfl rfl rfl ?_
      refine zv_getr hB zd144_92 rfl ?_
      refine zv_ild hB zd144_95 rfl rfl ?_
      obtain ⟨r10, hr10, h⟩ := zi_bind h
      refine zv_cv hB (zv_emq (va2 := [.inr 1, .inl r6.1]) (F := [.inr 3, .inl f1, .inl f2, .inl f3, .inl f4, .inl r5.1]) (F' := [.inr 3, .inl f1, .inl f2, .inl f3, .inl f4, .inl r5.1]) (G := [r5.2.1, r5.2.2.1, r5.2.2.2.1, g3, g4, g5, g6, g7, g8, g9, r5.2.2.2.2, g11, g12, r6.2.1, r6.2.2]) (G' := [r5.2.1, r5.2.2.1, r5.2.2.2.1, g3, g4, g5, g6, g7, g8, g9, r5.2.2.2.2, g11, g12, r6.2.1, r6.2.2]) (ρ := [1, 6]) (φ := []) (ψ := [2]) [none, none, none, none, none, none] [none, none, some 0, none, none, none, none, none, none, none, none, none, none, none, none] zyw_Chooser_weightOf zyw_X_sold zye_X_sold (by decide +kernel) (zt_Chooser_weightOf hr10) trivial ⟨rfl, trivial⟩ rfl rfl rfl rfl rfl rfl rfl) zd144_96 zxt150 rfl (by decide) (by decide) rfl ?_
      have hw := Option.some.inj h
      subst hw
      exact hret _ _ _ _ _ zd144_99 (by trivial) ⟨rfl, rfl, rfl⟩
    · rw [if_pos hc4] at h
      refine zv_con hB zd144_20 rfl ?_
      have hw := Option.some.inj h
      subst hw
      exact hret _ _ _ _ _ zd144_21 (by trivial) ⟨rfl, rfl, rfl⟩
/-! Sea_goFrom (II)I -/
-- names: 0 Sea('arg', 0), 1 (0, 12)(0, 2, 0)
-- fields: ; arrays: g0 = 1; out: [('ret', None)]
abbrev zy_Sea_goFrom : zNL := (2, [(0, 2)], [], [(0, 2, 0, 1)], [(1, 0, 12, 0)])
theorem zyw_Sea_goFrom : zv_wf zy_Sea_goFrom = true := by decide +kernel
theorem zye_Sea_goFrom : zv_ek2 zy_Sea_goFrom = true := by decide +kernel
def zf_Sea_goFrom (x1 : Int) (x2 : Int) (g0 : (Int → Int)) : Option (Int) := (zf_X_columnOf x1).bind fun r1 => ((zf_X_rowOf x1).bind fun r2 => (if x2 = 1 then ((zf_X_isPlace (zi_rem (zi_w (r1 + 1)) 24) r2).bind fun r4 => (if r4 = 0 then (some (-1)) else ((zf_X_placeOf (zi_rem (zi_w (r1 + 1)) 24) r2).bind fun r6 => ((zf_Sea_isLand r6 g0).bind fun r7 => (if r7 = 0 then ((zf_X_placeOf (zi_rem (zi_w (r1 + 1)) 24) r2).bind fun r9 => (some r9)) else (some (-1))))))) else (if x2 = 2 then ((zf_X_isPlace (zi_rem (zi_w ((zi_w (r1 + 24)) - 1)) 24) r2).bind fun r11 => (if r11 = 0 then (some (-1)) else ((zf_X_placeOf (zi_rem (zi_w ((zi_w (r1 + 24)) - 1)) 24) r2).bind fun r13 => ((zf_Sea_isLand r13 g0).bind fun r14 => (if r14 = 0 then ((zf_X_placeOf (zi_rem (zi_w ((zi_w (r1 + 24)) - 1)) 24) r2).bind fun r16 => (some r16)) else (some (-1))))))) else (if x2 = 3 then ((zf_X_isPlace r1 (zi_w (r2 + 1))).bind fun r18 => (if r18 = 0 then (some (-1)) else ((zf_X_placeOf r1 (zi_w (r2 + 1))).bind fun r20 => ((zf_Sea_isLand r20 g0).bind fun r21 => (if r21 = 0 then ((zf_X_placeOf r1 (zi_w (r2 + 1))).bind fun r23 => (some r23)) else (some (-1))))))) else (if x2 = 4 then ((zf_X_isPlace r1 (zi_w (r2 + (-1)))).bind fun r25 => (if r25 = 0 then (some (-1)) else ((zf_X_placeOf r1 (zi_w (r2 + (-1)))).bind fun r27 => ((zf_Sea_isLand r27 g0).bind fun r28 => (if r28 = 0 then ((zf_X_placeOf r1 (zi_w (r2 + (-1)))).bind fun r30 => (some r30)) else (some (-1))))))) else ((zf_X_isPlace r1 r2).bind fun r31 => (if r31 = 0 then (some (-1)) else ((zf_X_placeOf r1 r2).bind fun r33 => ((zf_Sea_isLand r33 g0).bind fun r34 => (if r34 = 0 then ((zf_X_placeOf r1 r2).bind fun r36 => (some r36)) else (some (-1))))))))))))
theorem zd154_0 : decode zxm154.2.1 0 = .ok (.iload_n 1, 1) := by decide +kernel
theorem zd154_1 : decode zxm154.2.1 1 = .ok (.invokestatic 26, 3) := by decide +kernel
theorem zd154_4 : decode zxm154.2.1 4 = .ok (.istore_n 3, 1) := by decide +kernel
theorem zd154_5 : decode zxm154.2.1 5 = .ok (.iload_n 1, 1) := by decide +kernel
theorem zd154_6 : decode zxm154.2.1 6 = .ok (.invokestatic 22, 3) := by decide +kernel
theorem zd154_9 : decode zxm154.2.1 9 = .ok (.istore 4, 2) := by decide +kernel
theorem zd154_11 : decode zxm154.2.1 11 = .ok (.iload_n 2, 1) := by decide +kernel
theorem zd154_12 : decode zxm154.2.1 12 = .ok (.tableswitch 67 1 4 #[32, 42, 55, 61], 32) := by decide +kernel
theorem zd154_44 : decode zxm154.2.1 44 = .ok (.iload_n 3, 1) := by decide +kernel
theorem zd154_45 : decode zxm154.2.1 45 = .ok (.iconst 1, 1) := by decide +kernel
theorem zd154_46 : decode zxm154.2.1 46 = .ok (.iadd, 1) := by decide +kernel
theorem zd154_47 : decode zxm154.2.1 47 = .ok (.bipush 24, 2) := by decide +kernel
theorem zd154_49 : decode zxm154.2.1 49 = .ok (.irem, 1) := by decide +kernel
theorem zd154_50 : decode zxm154.2.1 50 = .ok (.istore_n 3, 1) := by decide +kernel
theorem zd154_51 : decode zxm154.2.1 51 = .ok (.goto 28, 3) := by decide +kernel
theorem zd154_54 : decode zxm154.2.1 54 = .ok (.iload_n 3, 1) := by decide +kernel
theorem zd154_55 : decode zxm154.2.1 55 = .ok (.bipush 24, 2) := by decide +kernel
theorem zd154_57 : decode zxm154.2.1 57 = .ok (.iadd, 1) := by decide +kernel
theorem zd154_58 : decode zxm154.2.1 58 = .ok (.iconst 1, 1) := by decide +kernel
theorem zd154_59 : decode zxm154.2.1 59 = .ok (.isub, 1) := by decide +kernel
theorem zd154_60 : decode zxm154.2.1 60 = .ok (.bipush 24, 2) := by decide +kernel
theorem zd154_62 : decode zxm154.2.1 62 = .ok (.irem, 1) := by decide +kernel
theorem zd154_63 : decode zxm154.2.1 63 = .ok (.istore_n 3, 1) := by decide +kernel
theorem zd154_64 : decode zxm154.2.1 64 = .ok (.goto 15, 3) := by decide +kernel
theorem zd154_67 : decode zxm154.2.1 67 = .ok (.iinc 4 1, 3) := by decide +kernel
theorem zd154_70 : decode zxm154.2.1 70 = .ok (.goto 9, 3) := by decide +kernel
theorem zd154_73 : decode zxm154.2.1 73 = .ok (.iinc 4 (-1), 3) := by decide +kernel
theorem zd154_76 : decode zxm154.2.1 76 = .ok (.goto 3, 3) := by decide +kernel
theorem zd154_79 : decode zxm154.2.1 79 = .ok (.iload_n 3, 1) := by decide +kernel
theorem zd154_80 : decode zxm154.2.1 80 = .ok (.iload 4, 2) := by decide +kernel
theorem zd154_82 : decode zxm154.2.1 82 = .ok (.invokestatic 38, 3) := by decide +kernel
theorem zd154_85 : decode zxm154.2.1 85 = .ok (.ifCond .eq 16, 3) := by decide +kernel
theorem zd154_88 : decode zxm154.2.1 88 = .ok (.aload_n 0, 1) := by decide +kernel
theorem zd154_89 : decode zxm154.2.1 89 = .ok (.iload_n 3, 1) := by decide +kernel
theorem zd154_90 : decode zxm154.2.1 90 = .ok (.iload 4, 2) := by decide +kernel
theorem zd154_92 : decode zxm154.2.1 92 = .ok (.invokestatic 42, 3) := by decide +kernel
theorem zd154_95 : decode zxm154.2.1 95 = .ok (.invokevirtual 46, 3) := by decide +kernel
theorem zd154_98 : decode zxm154.2.1 98 = .ok (.ifCond .eq 7, 3) := by decide +kernel
theorem zd154_101 : decode zxm154.2.1 101 = .ok (.iconst (-1), 1) := by decide +kernel
theorem zd154_102 : decode zxm154.2.1 102 = .ok (.goto 9, 3) := by decide +kernel
theorem zd154_105 : decode zxm154.2.1 105 = .ok (.iload_n 3, 1) := by decide +kernel
theorem zd154_106 : decode zxm154.2.1 106 = .ok (.iload 4, 2) := by decide +kernel
theorem zd154_108 : decode zxm154.2.1 108 = .ok (.invokestatic 42, 3) := by decide +kernel
theorem zd154_111 : decode zxm154.2.1 111 = .ok (.ireturn, 1) := by decide +kernel
theorem zt_Sea_goFrom {x1 : Int} {x2 : Int} {g0 : (Int → Int)} {o : Int} (h : zf_Sea_goFrom x1 x2 g0 = some o) : zv_Fn z_TB z_cl z_KX zy_Sea_goFrom zxm154 (2, 120) [.inr 0, .inl x1, .inl x2] [] [g0] (some o) [] [g0] := zv_meth (K := (z_KF7, z_KC7, z_KL7, z_KT7, [], [], [], none)) (FT := z_FT) (MT := z_MT) (n := 3) zxp154 (z_ks7 _ (fun _ h => List.mem_cons_of_mem _ h) _ _ _ _ (fun j r h _ => by cases h)) (fun _ _ => zs_KX_p) zyw_Sea_goFrom (fun va F G h => by obtain ⟨rfl, _⟩ := h; rfl) (fun va F G h => by obtain ⟨rfl, _⟩ := h; rfl) rfl fun good va F G hB hret hvret hP => by
  obtain ⟨rfl, rfl, rfl⟩ := hP
  unfold zf_Sea_goFrom at h
  refine zv_ild hB zd154_0 rfl rfl ?_
  obtain ⟨r1, hr1, h⟩ := zi_bind h
  refine zv_cs hB (zv_emq (va2 := [.inl x1]) (F := []) (F' := []) (G := [g0]) (G' := [g0]) (ρ := []) (φ := []) (ψ := []) [] [none] zyw_X_columnOf zyw_Sea_goFrom zye_Sea_goFrom (by decide +kernel) (zt_X_columnOf hr1) trivial trivial rfl rfl rfl rfl rfl rfl rfl) zd154_1 zxt31 rfl (by decide) (by decide) rfl ?_
  refine zv_ist hB zd154_4 rfl rfl rfl ?_
  refine zv_ild hB zd154_5 rfl rfl ?_
  obtain ⟨r2, hr2, h⟩ := zi_bind h
  refine zv_cs hB (zv_emq (va2 := [.inl x1]) (F := []) (F' := []) (G := [g0]) (G' := [g0]) (ρ := []) (φ := []) (ψ := []) [] [none] zyw_X_rowOf zyw_Sea_goFrom zye_Sea_goFrom (by decide +kernel) (zt_X_rowOf hr2) trivial trivial rfl rfl rfl rfl rfl rfl rfl) zd154_6 zxt30 rfl (by decide) (by decide) rfl ?_
  refine zv_ist hB zd154_9 rfl rfl rfl ?_
  refine zv_ild hB zd154_11 rfl rfl ?_
  refine zv_tsw hB zd154_12 rfl ?_
  refine ⟨fun hc3 => ⟨_, rfl, ?_⟩, fun hc3 => ?_⟩
  · replace hc3 : x2 = 1 := hc3
    rw [if_pos hc3] at h
    refine zv_ild hB zd154_44 rfl rfl ?_
    refine zv_con hB zd154_45 rfl ?_
    refine zv_addw hB zd154_46 ?_
    refine zv_con hB zd154_47 rfl ?_
    refine zv_remw hB zd154_49 (by decide) ?_
    refine zv_ist hB zd154_50 rfl rfl rfl ?_
    refine zv_goto hB zd154_51 rfl ?_
    refine zv_ild hB zd154_79 rfl rfl ?_
    refine zv_ild hB zd154_80 rfl rfl ?_
    obtain ⟨r4, hr4, h⟩ := zi_bind h
    refine zv_cs hB (zv_emq (va2 := [.inl (zi_rem (zi_w (r1 + 1)) 24), .inl r2]) (F := []) (F' := []) (G := [g0]) (G' := [g0]) (ρ := []) (φ := []) (ψ := []) [] [none] zyw_X_isPlace zyw_Sea_goFrom zye_Sea_goFrom (by decide +kernel) (zt_X_isPlace hr4) trivial trivial rfl rfl rfl rfl rfl rfl rfl) zd154_82 zxt16 rfl (by decide) (by decide) rfl ?_
    refine zv_zeq hB zd154_85 rfl (fun hc5 => ?_) (fun hc5 => ?_)
    · rw [if_pos hc5] at h
      refine zv_con hB zd154_101 rfl ?_
      refine zv_goto hB zd154_102 rfl ?_
      have hw := Option.some.inj h
      subst hw
      exact hret _ _ _ _ _ zd154_111 (by trivial) ⟨rfl, rfl, rfl⟩
    · rw [if_neg hc5] at h
      refine zv_ald hB zd154_88 rfl rfl rfl ?_
      refine zv_ild hB zd154_89 rfl rfl ?_
      refine zv_ild hB zd154_90 rfl rfl ?_
      obtain ⟨r6, hr6, h⟩ := zi_bind h
      refine zv_cs hB (zv_emq (va2 := [.inl (zi_rem (zi_w (r1 + 1)) 24), .inl r2]) (F := []) (F' := []) (G := [g0]) (G' := [g0]) (ρ := []) (φ := []) (ψ := []) [] [none] zyw_X_placeOf zyw_Sea_goFrom zye_Sea_goFrom (by decide +kernel) (zt_X_placeOf hr6) trivial trivial rfl rfl rfl rfl rfl rfl rfl) zd154_92 zxt24 rfl (by decide) (by decide) rfl ?_
      obtain ⟨r7, hr7, h⟩ := zi_bind h
      refine zv_cv hB (zv_emq (va2 := [.inr 0, .inl r6]) (F := []) (F' := []) (G := [g0]) (G' := [g0]) (ρ := [0, 1]) (φ := []) (ψ := [0]) [] [some 0] zyw_Sea_isLand zyw_Sea_goFrom zye_Sea_goFrom (by decide +kernel) (zt_Sea_isLand hr7) trivial ⟨rfl, trivial⟩ rfl rfl rfl rfl rfl rfl rfl) zd154_95 zxt29 rfl (by decide) (by decide) rfl ?_
      refine zv_zeq hB zd154_98 rfl (fun hc8 => ?_) (fun hc8 => ?_)
      · rw [if_pos hc8] at h
        refine zv_ild hB zd154_105 rfl rfl ?_
        refine zv_ild hB zd154_106 rfl rfl ?_
        obtain ⟨r9, hr9, h⟩ := zi_bind h
        refine zv_cs hB (zv_emq (va2 := [.inl (zi_rem (zi_w (r1 + 1)) 24), .inl r2]) (F := []) (F' := []) (G := [g0]) (G' := [g0]) (ρ := []) (φ := []) (ψ := []) [] [none] zyw_X_placeOf zyw_Sea_goFrom zye_Sea_goFrom (by decide +kernel) (zt_X_placeOf hr9) trivial trivial rfl rfl rfl rfl rfl rfl rfl) zd154_108 zxt24 rfl (by decide) (by decide) rfl ?_
        have hw := Option.some.inj h
        subst hw
        exact hret _ _ _ _ _ zd154_111 (by trivial) ⟨rfl, rfl, rfl⟩
      · rw [if_neg hc8] at h
        refine zv_con hB zd154_101 rfl ?_
        refine zv_goto hB zd154_102 rfl ?_
        have hw := Option.some.inj h
        subst hw
        exact hret _ _ _ _ _ zd154_111 (by trivial) ⟨rfl, rfl, rfl⟩
  replace hc3 : x2 ≠ 1 := hc3
  rw [if_neg hc3] at h
  refine ⟨fun hc10 => ⟨_, rfl, ?_⟩, fun hc10 => ?_⟩
  · replace hc10 : x2 = 2 := hc10
    rw [if_pos hc10] at h
    refine zv_ild hB zd154_54 rfl rfl ?_
    refine zv_con hB zd154_55 rfl ?_
    refine zv_addw hB zd154_57 ?_
    refine zv_con hB zd154_58 rfl ?_
    refine zv_subw hB zd154_59 ?_
    refine zv_con hB zd154_60 rfl ?_
    refine zv_remw hB zd154_62 (by decide) ?_
    refine zv_ist hB zd154_63 rfl rfl rfl ?_
    refine zv_goto hB zd154_64 rfl ?_
    refine zv_ild hB zd154_79 rfl rfl ?_
    refine zv_ild hB zd154_80 rfl rfl ?_
    obtain ⟨r11, hr11, h⟩ := zi_bind h
    refine zv_cs hB (zv_emq (va2 := [.inl (zi_rem (zi_w ((zi_w (r1 + 24)) - 1)) 24), .inl r2]) (F := []) (F' := []) (G := [g0]) (G' := [g0]) (ρ := []) (φ := []) (ψ := []) [] [none] zyw_X_isPlace zyw_Sea_goFrom zye_Sea_goFrom (by decide +kernel) (zt_X_isPlace hr11) trivial trivial rfl rfl rfl rfl rfl rfl rfl) zd154_82 zxt16 rfl (by decide) (by decide) rfl ?_
    refine zv_zeq hB zd154_85 rfl (fun hc12 => ?_) (fun hc12 => ?_)
    · rw [if_pos hc12] at h
      refine zv_con hB zd154_101 rfl ?_
      refine zv_goto hB zd154_102 rfl ?_
      have hw := Option.some.inj h
      subst hw
      exact hret _ _ _ _ _ zd154_111 (by trivial) ⟨rfl, rfl, rfl⟩
    · rw [if_neg hc12] at h
      refine zv_ald hB zd154_88 rfl rfl rfl ?_
      refine zv_ild hB zd154_89 rfl rfl ?_
      refine zv_ild hB zd154_90 rfl rfl ?_
      obtain ⟨r13, hr13, h⟩ := zi_bind h
      refine zv_cs hB (zv_emq (va2 := [.inl (zi_rem (zi_w ((zi_w (r1 + 24)) - 1)) 24), .inl r2]) (F := []) (F' := []) (G := [g0]) (G' := [g0]) (ρ := []) (φ := []) (ψ := []) [] [none] zyw_X_placeOf zyw_Sea_goFrom zye_Sea_goFrom (by decide +kernel) (zt_X_placeOf hr13) trivial trivial rfl rfl rfl rfl rfl rfl rfl) zd154_92 zxt24 rfl (by decide) (by decide) rfl ?_
      obtain ⟨r14, hr14, h⟩ := zi_bind h
      refine zv_cv hB (zv_emq (va2 := [.inr 0, .inl r13]) (F := []) (F' := []) (G := [g0]) (G' := [g0]) (ρ := [0, 1]) (φ := []) (ψ := [0]) [] [some 0] zyw_Sea_isLand zyw_Sea_goFrom zye_Sea_goFrom (by decide +kernel) (zt_Sea_isLand hr14) trivial ⟨rfl, trivial⟩ rfl rfl rfl rfl rfl rfl rfl) zd154_95 zxt29 rfl (by decide) (by decide) rfl ?_
      refine zv_zeq hB zd154_98 rfl (fun hc15 => ?_) (fun hc15 => ?_)
      · rw [if_pos hc15] at h
        refine zv_ild hB zd154_105 rfl rfl ?_
        refine zv_ild hB zd154_106 rfl rfl ?_
        obtain ⟨r16, hr16, h⟩ := zi_bind h
        refine zv_cs hB (zv_emq (va2 := [.inl (zi_rem (zi_w ((zi_w (r1 + 24)) - 1)) 24), .inl r2]) (F := []) (F' := []) (G := [g0]) (G' := [g0]) (ρ := []) (φ := []) (ψ := []) [] [none] zyw_X_placeOf zyw_Sea_goFrom zye_Sea_goFrom (by decide +kernel) (zt_X_placeOf hr16) trivial trivial rfl rfl rfl rfl rfl rfl rfl) zd154_108 zxt24 rfl (by decide) (by decide) rfl ?_
        have hw := Option.some.inj h
        subst hw
        exact hret _ _ _ _ _ zd154_111 (by trivial) ⟨rfl, rfl, rfl⟩
      · rw [if_neg hc15] at h
        refine zv_con hB zd154_101 rfl ?_
        refine zv_goto hB zd154_102 rfl ?_
        have hw := Option.some.inj h
        subst hw
        exact hret _ _ _ _ _ zd154_111 (by trivial) ⟨rfl, rfl, rfl⟩
  replace hc10 : x2 ≠ 2 := hc10
  rw [if_neg hc10] at h
  refine ⟨fun hc17 => ⟨_, rfl, ?_⟩, fun hc17 => ?_⟩
  · replace hc17 : x2 = 3 := hc17
    rw [if_pos hc17] at h
    refine zv_iincw hB zd154_67 rfl rfl ?_
    refine zv_goto hB zd154_70 rfl ?_
    refine zv_ild hB zd154_79 rfl rfl ?_
    refine zv_ild hB zd154_80 rfl rfl ?_
    obtain ⟨r18, hr18, h⟩ := zi_bind h
    refine zv_cs hB (zv_emq (va2 := [.inl r1, .inl (zi_w (r2 + 1))]) (F := []) (F' := []) (G := [g0]) (G' := [g0]) (ρ := []) (φ := []) (ψ := []) [] [none] zyw_X_isPlace zyw_Sea_goFrom zye_Sea_goFrom (by decide +kernel) (zt_X_isPlace hr18) trivial trivial rfl rfl rfl rfl rfl rfl rfl) zd154_82 zxt16 rfl (by decide) (by decide) rfl ?_
    refine zv_zeq hB zd154_85 rfl (fun hc19 => ?_) (fun hc19 => ?_)
    · rw [if_pos hc19] at h
      refine zv_con hB zd154_101 rfl ?_
      refine zv_goto hB zd154_102 rfl ?_
      have hw := Option.some.inj h
      subst hw
      exact hret _ _ _ _ _ zd154_111 (by trivial) ⟨rfl, rfl, rfl⟩
    · rw [if_neg hc19] at h
      refine zv_ald hB zd154_88 rfl rfl rfl ?_
      refine zv_ild hB zd154_89 rfl rfl ?_
      refine zv_ild hB zd154_90 rfl rfl ?_
      obtain ⟨r20, hr20, h⟩ := zi_bind h
      refine zv_cs hB (zv_emq (va2 := [.inl r1, .inl (zi_w (r2 + 1))]) (F := []) (F' := []) (G := [g0]) (G' := [g0]) (ρ := []) (φ := []) (ψ := []) [] [none] zyw_X_placeOf zyw_Sea_goFrom zye_Sea_goFrom (by decide +kernel) (zt_X_placeOf hr20) trivial trivial rfl rfl rfl rfl rfl rfl rfl) zd154_92 zxt24 rfl (by decide) (by decide) rfl ?_
      obtain ⟨r21, hr21, h⟩ := zi_bind h
      refine zv_cv hB (zv_emq (va2 := [.inr 0, .inl r20]) (F := []) (F' := []) (G := [g0]) (G' := [g0]) (ρ := [0, 1]) (φ := []) (ψ := [0]) [] [some 0] zyw_Sea_isLand zyw_Sea_goFrom zye_Sea_goFrom (by decide +kernel) (zt_Sea_isLand hr21) trivial ⟨rfl, trivial⟩ rfl rfl rfl rfl rfl rfl rfl) zd154_95 zxt29 rfl (by decide) (by decide) rfl ?_
      refine zv_zeq hB zd154_98 rfl (fun hc22 => ?_) (fun hc22 => ?_)
      · rw [if_pos hc22] at h
        refine zv_ild hB zd154_105 rfl rfl ?_
        refine zv_ild hB zd154_106 rfl rfl ?_
        obtain ⟨r23, hr23, h⟩ := zi_bind h
        refine zv_cs hB (zv_emq (va2 := [.inl r1, .inl (zi_w (r2 + 1))]) (F := []) (F' := []) (G := [g0]) (G' := [g0]) (ρ := []) (φ := []) (ψ := []) [] [none] zyw_X_placeOf zyw_Sea_goFrom zye_Sea_goFrom (by decide +kernel) (zt_X_placeOf hr23) trivial trivial rfl rfl rfl rfl rfl rfl rfl) zd154_108 zxt24 rfl (by decide) (by decide) rfl ?_
        have hw := Option.some.inj h
        subst hw
        exact hret _ _ _ _ _ zd154_111 (by trivial) ⟨rfl, rfl, rfl⟩
      · rw [if_neg hc22] at h
        refine zv_con hB zd154_101 rfl ?_
        refine zv_goto hB zd154_102 rfl ?_
        have hw := Option.some.inj h
        subst hw
        exact hret _ _ _ _ _ zd154_111 (by trivial) ⟨rfl, rfl, rfl⟩
  replace hc17 : x2 ≠ 3 := hc17
  rw [if_neg hc17] at h
  refine ⟨fun hc24 => ⟨_, rfl, ?_⟩, fun hc24 => ?_⟩
  · replace hc24 : x2 = 4 := hc24
    rw [if_pos hc24] at h
    refine zv_iincw hB zd154_73 rfl rfl ?_
    refine zv_goto hB zd154_76 rfl ?_
    refine zv_ild hB zd154_79 rfl rfl ?_
    refine zv_ild hB zd154_80 rfl rfl ?_
    obtain ⟨r25, hr25, h⟩ := zi_bind h
    refine zv_cs hB (zv_emq (va2 := [.inl r1, .inl (zi_w (r2 + (-1)))]) (F := []) (F' := []) (G := [g0]) (G' := [g0]) (ρ := []) (φ := []) (ψ := []) [] [none] zyw_X_isPlace zyw_Sea_goFrom zye_Sea_goFrom (by decide +kernel) (zt_X_isPlace hr25) trivial trivial rfl rfl rfl rfl rfl rfl rfl) zd154_82 zxt16 rfl (by decide) (by decide) rfl ?_
    refine zv_zeq hB zd154_85 rfl (fun hc26 => ?_) (fun hc26 => ?_)
    · rw [if_pos hc26] at h
      refine zv_con hB zd154_101 rfl ?_
      refine zv_goto hB zd154_102 rfl ?_
      have hw := Option.some.inj h
      subst hw
      exact hret _ _ _ _ _ zd154_111 (by trivial) ⟨rfl, rfl, rfl⟩
    · rw [if_neg hc26] at h
      refine zv_ald hB zd154_88 rfl rfl rfl ?_
      refine zv_ild hB zd154_89 rfl rfl ?_
      refine zv_ild hB zd154_90 rfl rfl ?_
      obtain ⟨r27, hr27, h⟩ := zi_bind h
      refine zv_cs hB (zv_emq (va2 := [.inl r1, .inl (zi_w (r2 + (-1)))]) (F := []) (F' := []) (G := [g0]) (G' := [g0]) (ρ := []) (φ := []) (ψ := []) [] [none] zyw_X_placeOf zyw_Sea_goFrom zye_Sea_goFrom (by decide +kernel) (zt_X_placeOf hr27) trivial trivial rfl rfl rfl rfl rfl rfl rfl) zd154_92 zxt24 rfl (by decide) (by decide) rfl ?_
      obtain ⟨r28, hr28, h⟩ := zi_bind h
      refine zv_cv hB (zv_emq (va2 := [.inr 0, .inl r27]) (F := []) (F' := []) (G := [g0]) (G' := [g0]) (ρ := [0, 1]) (φ := []) (ψ := [0]) [] [some 0] zyw_Sea_isLand zyw_Sea_goFrom zye_Sea_goFrom (by decide +kernel) (zt_Sea_isLand hr28) trivial ⟨rfl, trivial⟩ rfl rfl rfl rfl rfl rfl rfl) zd154_95 zxt29 rfl (by decide) (by decide) rfl ?_
      refine zv_zeq hB zd154_98 rfl (fun hc29 => ?_) (fun hc29 => ?_)
      · rw [if_pos hc29] at h
        refine zv_ild hB zd154_105 rfl rfl ?_
        refine zv_ild hB zd154_106 rfl rfl ?_
        obtain ⟨r30, hr30, h⟩ := zi_bind h
        refine zv_cs hB (zv_emq (va2 := [.inl r1, .inl (zi_w (r2 + (-1)))]) (F := []) (F' := []) (G := [g0]) (G' := [g0]) (ρ := []) (φ := []) (ψ := []) [] [none] zyw_X_placeOf zyw_Sea_goFrom zye_Sea_goFrom (by decide +kernel) (zt_X_placeOf hr30) trivial trivial rfl rfl rfl rfl rfl rfl rfl) zd154_108 zxt24 rfl (by decide) (by decide) rfl ?_
        have hw := Option.some.inj h
        subst hw
        exact hret _ _ _ _ _ zd154_111 (by trivial) ⟨rfl, rfl, rfl⟩
      · rw [if_neg hc29] at h
        refine zv_con hB zd154_101 rfl ?_
        refine zv_goto hB zd154_102 rfl ?_
        have hw := Option.some.inj h
        subst hw
        exact hret _ _ _ _ _ zd154_111 (by trivial) ⟨rfl, rfl, rfl⟩
  replace hc24 : x2 ≠ 4 := hc24
  rw [if_neg hc24] at h
  refine ⟨_, rfl, ?_⟩
  refine zv_ild hB zd154_79 rfl rfl ?_
  refine zv_ild hB zd154_80 rfl rfl ?_
  obtain ⟨r31, hr31, h⟩ := zi_bind h
  refine zv_cs hB (zv_emq (va2 := [.inl r1, .inl r2]) (F := []) (F' := []) (G := [g0]) (G' := [g0]) (ρ := []) (φ := []) (ψ := []) [] [none] zyw_X_isPlace zyw_Sea_goFrom zye_Sea_goFrom (by decide +kernel) (zt_X_isPlace hr31) trivial trivial rfl rfl rfl rfl rfl rfl rfl) zd154_82 zxt16 rfl (by decide) (by decide) rfl ?_
  refine zv_zeq hB zd154_85 rfl (fun hc32 => ?_) (fun hc32 => ?_)
  · rw [if_pos hc32] at h
    refine zv_con hB zd154_101 rfl ?_
    refine zv_goto hB zd154_102 rfl ?_
    have hw := Option.some.inj h
    subst hw
    exact hret _ _ _ _ _ zd154_111 (by trivial) ⟨rfl, rfl, rfl⟩
  · rw [if_neg hc32] at h
    refine zv_ald hB zd154_88 rfl rfl rfl ?_
    refine zv_ild hB zd154_89 rfl rfl ?_
    refine zv_ild hB zd154_90 rfl rfl ?_
    obtain ⟨r33, hr33, h⟩ := zi_bind h
    refine zv_cs hB (zv_emq (va2 := [.inl r1, .inl r2]) (F := []) (F' := []) (G := [g0]) (G' := [g0]) (ρ := []) (φ := []) (ψ := []) [] [none] zyw_X_placeOf zyw_Sea_goFrom zye_Sea_goFrom (by decide +kernel) (zt_X_placeOf hr33) trivial trivial rfl rfl rfl rfl rfl rfl rfl) zd154_92 zxt24 rfl (by decide) (by decide) rfl ?_
    obtain ⟨r34, hr34, h⟩ := zi_bind h
    refine zv_cv hB (zv_emq (va2 := [.inr 0, .inl r33]) (F := []) (F' := []) (G := [g0]) (G' := [g0]) (ρ := [0, 1]) (φ := []) (ψ := [0]) [] [some 0] zyw_Sea_isLand zyw_Sea_goFrom zye_Sea_goFrom (by decide +kernel) (zt_Sea_isLand hr34) trivial ⟨rfl, trivial⟩ rfl rfl rfl rfl rfl rfl rfl) zd154_95 zxt29 rfl (by decide) (by decide) rfl ?_
    refine zv_zeq hB zd154_98 rfl (fun hc35 => ?_) (fun hc35 => ?_)
    · rw [if_pos hc35] at h
      refine zv_ild hB zd154_105 rfl rfl ?_
      refine zv_ild hB zd154_106 rfl rfl ?_
      obtain ⟨r36, hr36, h⟩ := zi_bind h
      refine zv_cs hB (zv_emq (va2 := [.inl r1, .inl r2]) (F := []) (F' := []) (G := [g0]) (G' := [g0]) (ρ := []) (φ := []) (ψ := []) [] [none] zyw_X_placeOf zyw_Sea_goFrom zye_Sea_goFrom (by decide +kernel) (zt_X_placeOf hr36) trivial trivial rfl rfl rfl rfl rfl rfl rfl) zd154_108 zxt24 rfl (by decide) (by decide) rfl ?_
      have hw := Option.some.inj h
      subst hw
      exact hret _ _ _ _ _ zd154_111 (by trivial) ⟨rfl, rfl, rfl⟩
    · rw [if_neg hc35] at h
      refine zv_con hB zd154_101 rfl ?_
      refine zv_goto hB zd154_102 rfl ?_
      have hw := Option.some.inj h
      subst hw
      exact hret _ _ _ _ _ zd154_111 (by trivial) ⟨rfl, rfl, rfl⟩
