/-! Methods as functions, and that they do what these do. -/
/-! X_sky (III)I -/
-- names: 0 StarTales('arg', 0), 1 View(0, 0, 12), 2 Sky(0, 0, 0), 3 Law(0, 0, 7), 4 (0, 24)(1, 7, 8), 5 (0, 13)(3, 4, 12), 6 (0, 24)(2, 1, 1), 7 (0, 24)(2, 1, 2), 8 (0, 24)(2, 1, 3), 9 (0, 14)(3, 4, 3), 10 (0, 14)(3, 4, 5), 11 (0, 14)(3, 4, 6), 12 (0, 200)(3, 4, 0), 13 (0, 40)(3, 4, 13), 14 (0, 200)(3, 4, 1), 15 (0, 24)(1, 7, 5), 16 (0, 24)(1, 7, 9)
-- fields: f0 = 0.ruling_, f1 = 1.sky_, f2 = 1.law_, f3 = 1.starsAsked_, f4 = 1.x_, f5 = 1.y_, f6 = 2.hour_, f7 = 2.night_, f8 = 1.shown_, f9 = 2.told_, f10 = 2.sightColumns_, f11 = 2.sightRows_, f12 = 2.clouds_, f13 = 3.tellsSeen_, f14 = 1.starsHold_, f15 = 3.clauses_, f16 = 3.answer_, f17 = 3.seenByPlace_, f18 = 3.tellsLines_, f19 = 3.linesByPlace_; arrays: g0 = 4, g1 = 5, g2 = 6, g3 = 7, g4 = 8, g5 = 9, g6 = 10, g7 = 11, g8 = 12, g9 = 13, g10 = 14, g11 = 15, g12 = 16; out: [('ret', None), ('f', 3), ('f', 4), ('f', 5), ('f', 8), ('f', 14), ('f', 16), ('g', 0), ('g', 1), ('g', 9), ('g', 11), ('g', 12)]
abbrev zy_X_sky : zNL := (17, [(0, 0), (1, 7), (2, 1), (3, 4)], [(0, 0, 7, 0), (1, 7, 0, 1), (1, 7, 1, 2), (1, 7, 6, 3), (1, 7, 2, 4), (1, 7, 3, 5), (2, 1, 6, 6), (2, 1, 7, 7), (1, 7, 4, 8), (2, 1, 0, 9), (2, 1, 9, 10), (2, 1, 10, 11), (2, 1, 8, 12), (3, 4, 8, 13), (1, 7, 7, 14), (3, 4, 7, 15), (3, 4, 14, 16), (3, 4, 10, 17), (3, 4, 9, 18), (3, 4, 11, 19)], [(0, 0, 12, 1), (0, 0, 0, 2), (1, 7, 8, 4), (3, 4, 12, 5), (2, 1, 1, 6), (2, 1, 2, 7), (2, 1, 3, 8), (3, 4, 3, 9), (3, 4, 5, 10), (3, 4, 6, 11), (3, 4, 0, 12), (3, 4, 13, 13), (3, 4, 1, 14), (1, 7, 5, 15), (1, 7, 9, 16)], [(4, 0, 24, 0), (5, 0, 13, 1), (6, 0, 24, 2), (7, 0, 24, 3), (8, 0, 24, 4), (9, 0, 14, 5), (10, 0, 14, 6), (11, 0, 14, 7), (12, 0, 200, 8), (13, 0, 40, 9), (14, 0, 200, 10), (15, 0, 24, 11), (16, 0, 24, 12)])
theorem zyw_X_sky : zv_wf zy_X_sky = true := by decide +kernel
theorem zye_X_sky : zv_ek2 zy_X_sky = true := by decide +kernel
def zf_X_sky (x1 : Int) (x2 : Int) (x3 : Int) (f3 : Int) (f4 : Int) (f5 : Int) (f6 : Int) (f7 : Int) (f8 : Int) (f9 : Int) (f10 : Int) (f11 : Int) (f12 : Int) (f13 : Int) (f14 : Int) (f15 : Int) (f16 : Int) (f17 : Int) (f18 : Int) (f19 : Int) (g0 : (Int → Int)) (g1 : (Int → Int)) (g2 : (Int → Int)) (g3 : (Int → Int)) (g4 : (Int → Int)) (g5 : (Int → Int)) (g6 : (Int → Int)) (g7 : (Int → Int)) (g8 : (Int → Int)) (g9 : (Int → Int)) (g10 : (Int → Int)) (g11 : (Int → Int)) (g12 : (Int → Int)) : Option (Int × Int × Int × Int × Int × Int × Int × (Int → Int) × (Int → Int) × (Int → Int) × (Int → Int) × (Int → Int)) := (zf_X_isPlace x1 x2).bind fun r1 => (if r1 = 0 then (some ((-1), f3, f4, f5, f8, f14, f16, g0, g1, g9, g11, g12)) else ((zf_X_isWithin x3 0 6).bind fun r3 => (if r3 = 0 then (some ((-1), f3, f4, f5, f8, f14, f16, g0, g1, g9, g11, g12)) else ((zf_X_lookAndDraw x1 x2 f3 f4 f5 f6 f7 f8 f9 f10 f11 f12 f13 f14 f15 f16 f17 f18 f19 g0 g1 g2 g3 g4 g5 g6 g7 g8 g9 g10 g11 g12).bind fun r5 => ((zf_View_countLines r5.2.2.2.2.2.2.2.2.2.1).bind fun r6 => (if x3 = 0 then (some (r6, r5.1, r5.2.1, r5.2.2.1, r5.2.2.2.1, r5.2.2.2.2.1, r5.2.2.2.2.2.1, r5.2.2.2.2.2.2.1, r5.2.2.2.2.2.2.2.1, r5.2.2.2.2.2.2.2.2.1, r5.2.2.2.2.2.2.2.2.2.1, r5.2.2.2.2.2.2.2.2.2.2)) else (if x3 = 1 then ((zf_View_countFigures r5.2.2.2.1 r5.2.2.2.2.2.2.2.2.2.1).bind fun r9 => (some (r9, r5.1, r5.2.1, r5.2.2.1, r5.2.2.2.1, r5.2.2.2.2.1, r5.2.2.2.2.2.1, r5.2.2.2.2.2.2.1, r5.2.2.2.2.2.2.2.1, r5.2.2.2.2.2.2.2.2.1, r5.2.2.2.2.2.2.2.2.2.1, r5.2.2.2.2.2.2.2.2.2.2))) else (if x3 = 2 then ((zf_View_largestFigure r5.2.2.2.1 r5.2.2.2.2.2.2.2.2.2.1).bind fun r11 => (some (r11, r5.1, r5.2.1, r5.2.2.1, r5.2.2.2.1, r5.2.2.2.2.1, r5.2.2.2.2.2.1, r5.2.2.2.2.2.2.1, r5.2.2.2.2.2.2.2.1, r5.2.2.2.2.2.2.2.2.1, r5.2.2.2.2.2.2.2.2.2.1, r5.2.2.2.2.2.2.2.2.2.2))) else (if x3 = 3 then ((zf_Integer_bitCount r5.2.2.2.1).bind fun r13 => ((zf_View_countFigures r5.2.2.2.1 r5.2.2.2.2.2.2.2.2.2.1).bind fun r14 => (some ((zi_w ((zi_w (r6 - r13)) + r14)), r5.1, r5.2.1, r5.2.2.1, r5.2.2.2.1, r5.2.2.2.2.1, r5.2.2.2.2.2.1, r5.2.2.2.2.2.2.1, r5.2.2.2.2.2.2.2.1, r5.2.2.2.2.2.2.2.2.1, r5.2.2.2.2.2.2.2.2.2.1, r5.2.2.2.2.2.2.2.2.2.2)))) else (if x3 = 4 then ((zf_View_countHolding r5.2.2.2.2.2.2.2.2.2.1).bind fun r16 => (some (r16, r5.1, r5.2.1, r5.2.2.1, r5.2.2.2.1, r5.2.2.2.2.1, r5.2.2.2.2.2.1, r5.2.2.2.2.2.2.1, r5.2.2.2.2.2.2.2.1, r5.2.2.2.2.2.2.2.2.1, r5.2.2.2.2.2.2.2.2.2.1, r5.2.2.2.2.2.2.2.2.2.2))) else (if x3 = 5 then ((zf_View_mostLegged r5.2.2.2.1 r5.2.2.2.2.2.2.2.2.2.1).bind fun r18 => (some (r18, r5.1, r5.2.1, r5.2.2.1, r5.2.2.2.1, r5.2.2.2.2.1, r5.2.2.2.2.2.1, r5.2.2.2.2.2.2.1, r5.2.2.2.2.2.2.2.1, r5.2.2.2.2.2.2.2.2.1, r5.2.2.2.2.2.2.2.2.2.1, r5.2.2.2.2.2.2.2.2.2.2))) else ((zf_View_mostLegged r5.2.2.2.1 r5.2.2.2.2.2.2.2.2.2.1).bind fun r19 => ((zf_View_legsOf r19 r5.2.2.2.2.2.2.2.2.2.1).bind fun r20 => (some (r20, r5.1, r5.2.1, r5.2.2.1, r5.2.2.2.1, r5.2.2.2.2.1, r5.2.2.2.2.2.1, r5.2.2.2.2.2.2.1, r5.2.2.2.2.2.2.2.1, r5.2.2.2.2.2.2.2.2.1, r5.2.2.2.2.2.2.2.2.2.1, r5.2.2.2.2.2.2.2.2.2.2)))))))))))))))
theorem zd100_0 : decode zxm100.2.1 0 = .ok (.iload_n 1, 1) := by decide +kernel
theorem zd100_1 : decode zxm100.2.1 1 = .ok (.iload_n 2, 1) := by decide +kernel
theorem zd100_2 : decode zxm100.2.1 2 = .ok (.invokestatic 130, 3) := by decide +kernel
theorem zd100_5 : decode zxm100.2.1 5 = .ok (.ifCond .eq 13, 3) := by decide +kernel
theorem zd100_8 : decode zxm100.2.1 8 = .ok (.iload_n 3, 1) := by decide +kernel
theorem zd100_9 : decode zxm100.2.1 9 = .ok (.iconst 0, 1) := by decide +kernel
theorem zd100_10 : decode zxm100.2.1 10 = .ok (.bipush 6, 2) := by decide +kernel
theorem zd100_12 : decode zxm100.2.1 12 = .ok (.invokestatic 126, 3) := by decide +kernel
theorem zd100_15 : decode zxm100.2.1 15 = .ok (.ifCond .ne 5, 3) := by decide +kernel
theorem zd100_18 : decode zxm100.2.1 18 = .ok (.iconst (-1), 1) := by decide +kernel
theorem zd100_19 : decode zxm100.2.1 19 = .ok (.ireturn, 1) := by decide +kernel
theorem zd100_20 : decode zxm100.2.1 20 = .ok (.aload_n 0, 1) := by decide +kernel
theorem zd100_21 : decode zxm100.2.1 21 = .ok (.aload_n 0, 1) := by decide +kernel
theorem zd100_22 : decode zxm100.2.1 22 = .ok (.getfield 81, 3) := by decide +kernel
theorem zd100_25 : decode zxm100.2.1 25 = .ok (.iload_n 1, 1) := by decide +kernel
theorem zd100_26 : decode zxm100.2.1 26 = .ok (.iload_n 2, 1) := by decide +kernel
theorem zd100_27 : decode zxm100.2.1 27 = .ok (.invokevirtual 221, 3) := by decide +kernel
theorem zd100_30 : decode zxm100.2.1 30 = .ok (.aload_n 0, 1) := by decide +kernel
theorem zd100_31 : decode zxm100.2.1 31 = .ok (.getfield 81, 3) := by decide +kernel
theorem zd100_34 : decode zxm100.2.1 34 = .ok (.invokevirtual 225, 3) := by decide +kernel
theorem zd100_37 : decode zxm100.2.1 37 = .ok (.istore 4, 2) := by decide +kernel
theorem zd100_39 : decode zxm100.2.1 39 = .ok (.iload_n 3, 1) := by decide +kernel
theorem zd100_40 : decode zxm100.2.1 40 = .ok (.tableswitch 97 0 5 #[40, 43, 51, 59, 81, 89], 40) := by decide +kernel
theorem zd100_80 : decode zxm100.2.1 80 = .ok (.iload 4, 2) := by decide +kernel
theorem zd100_82 : decode zxm100.2.1 82 = .ok (.ireturn, 1) := by decide +kernel
theorem zd100_83 : decode zxm100.2.1 83 = .ok (.aload_n 0, 1) := by decide +kernel
theorem zd100_84 : decode zxm100.2.1 84 = .ok (.getfield 81, 3) := by decide +kernel
theorem zd100_87 : decode zxm100.2.1 87 = .ok (.invokevirtual 229, 3) := by decide +kernel
theorem zd100_90 : decode zxm100.2.1 90 = .ok (.ireturn, 1) := by decide +kernel
theorem zd100_91 : decode zxm100.2.1 91 = .ok (.aload_n 0, 1) := by decide +kernel
theorem zd100_92 : decode zxm100.2.1 92 = .ok (.getfield 81, 3) := by decide +kernel
theorem zd100_95 : decode zxm100.2.1 95 = .ok (.invokevirtual 232, 3) := by decide +kernel
theorem zd100_98 : decode zxm100.2.1 98 = .ok (.ireturn, 1) := by decide +kernel
theorem zd100_99 : decode zxm100.2.1 99 = .ok (.iload 4, 2) := by decide +kernel
theorem zd100_101 : decode zxm100.2.1 101 = .ok (.aload_n 0, 1) := by decide +kernel
theorem zd100_102 : decode zxm100.2.1 102 = .ok (.getfield 81, 3) := by decide +kernel
theorem zd100_105 : decode zxm100.2.1 105 = .ok (.getfield 218, 3) := by decide +kernel
theorem zd100_108 : decode zxm100.2.1 108 = .ok (.invokestatic 235, 3) := by decide +kernel
theorem zd100_111 : decode zxm100.2.1 111 = .ok (.isub, 1) := by decide +kernel
theorem zd100_112 : decode zxm100.2.1 112 = .ok (.aload_n 0, 1) := by decide +kernel
theorem zd100_113 : decode zxm100.2.1 113 = .ok (.getfield 81, 3) := by decide +kernel
theorem zd100_116 : decode zxm100.2.1 116 = .ok (.invokevirtual 229, 3) := by decide +kernel
theorem zd100_119 : decode zxm100.2.1 119 = .ok (.iadd, 1) := by decide +kernel
theorem zd100_120 : decode zxm100.2.1 120 = .ok (.ireturn, 1) := by decide +kernel
theorem zd100_121 : decode zxm100.2.1 121 = .ok (.aload_n 0, 1) := by decide +kernel
theorem zd100_122 : decode zxm100.2.1 122 = .ok (.getfield 81, 3) := by decide +kernel
theorem zd100_125 : decode zxm100.2.1 125 = .ok (.invokevirtual 240, 3) := by decide +kernel
theorem zd100_128 : decode zxm100.2.1 128 = .ok (.ireturn, 1) := by decide +kernel
theorem zd100_129 : decode zxm100.2.1 129 = .ok (.aload_n 0, 1) := by decide +kernel
theorem zd100_130 : decode zxm100.2.1 130 = .ok (.getfield 81, 3) := by decide +kernel
theorem zd100_133 : decode zxm100.2.1 133 = .ok (.invokevirtual 243, 3) := by decide +kernel
theorem zd100_136 : decode zxm100.2.1 136 = .ok (.ireturn, 1) := by decide +kernel
theorem zd100_137 : decode zxm100.2.1 137 = .ok (.aload_n 0, 1) := by decide +kernel
theorem zd100_138 : decode zxm100.2.1 138 = .ok (.getfield 81, 3) := by decide +kernel
theorem zd100_141 : decode zxm100.2.1 141 = .ok (.aload_n 0, 1) := by decide +kernel
theorem zd100_142 : decode zxm100.2.1 142 = .ok (.getfield 81, 3) := by decide +kernel
theorem zd100_145 : decode zxm100.2.1 145 = .ok (.invokevirtual 243, 3) := by decide +kernel
theorem zd100_148 : decode zxm100.2.1 148 = .ok (.invokevirtual 246, 3) := by decide +kernel
theorem zd100_151 : decode zxm100.2.1 151 = .ok (.ireturn, 1) := by decide +kernel
theorem zt_X_sky {x1 : Int} {x2 : Int} {x3 : Int} {f3 : Int} {f4 : Int} {f5 : Int} {f6 : Int} {f7 : Int} {f8 : Int} {f9 : Int} {f10 : Int} {f11 : Int} {f12 : Int} {f13 : Int} {f14 : Int} {f15 : Int} {f16 : Int} {f17 : Int} {f18 : Int} {f19 : Int} {g0 : (Int → Int)} {g1 : (Int → Int)} {g2 : (Int → Int)} {g3 : (Int → Int)} {g4 : (Int → Int)} {g5 : (Int → Int)} {g6 : (Int → Int)} {g7 : (Int → Int)} {g8 : (Int → Int)} {g9 : (Int → Int)} {g10 : (Int → Int)} {g11 : (Int → Int)} {g12 : (Int → Int)} {o : Int × Int × Int × Int × Int × Int × Int × (Int → Int) × (Int → Int) × (Int → Int) × (Int → Int) × (Int → Int)} (h : zf_X_sky x1 x2 x3 f3 f4 f5 f6 f7 f8 f9 f10 f11 f12 f13 f14 f15 f16 f17 f18 f19 g0 g1 g2 g3 g4 g5 g6 g7 g8 g9 g10 g11 g12 = some o) : zv_Fn z_TB z_cl z_KX zy_X_sky zxm100 (6, 360) [.inr 0, .inl x1, .inl x2, .inl x3] [.inr 3, .inr 1000, .inr 1000, .inl f3, .inl f4, .inl f5, .inl f6, .inl f7, .inl f8, .inl f9, .inl f10, .inl f11, .inl f12, .inl f13, .inl f14, .inl f15, .inl f16, .inl f17, .inl f18, .inl f19] [g0, g1, g2, g3, g4, g5, g6, g7, g8, g9, g10, g11, g12] (some o.1) [.inr 3, .inr 1000, .inr 1000, .inl o.2.1, .inl o.2.2.1, .inl o.2.2.2.1, .inl f6, .inl f7, .inl o.2.2.2.2.1, .inl f9, .inl f10, .inl f11, .inl f12, .inl f13, .inl o.2.2.2.2.2.1, .inl f15, .inl o.2.2.2.2.2.2.1, .inl f17, .inl f18, .inl f19] [o.2.2.2.2.2.2.2.1, o.2.2.2.2.2.2.2.2.1, g2, g3, g4, g5, g6, g7, g8, o.2.2.2.2.2.2.2.2.2.1, g10, o.2.2.2.2.2.2.2.2.2.2.1, o.2.2.2.2.2.2.2.2.2.2.2] := zv_meth (K := (z_KF0, z_KC0, z_KL0, z_KT0, [], [], [], none)) (FT := z_FT) (MT := z_MT) (n := 4) zxp100 (z_ks0 _ (fun _ h => List.mem_cons_of_mem _ h) _ _ _ _ (fun j r h _ => by cases h)) (fun _ _ => zs_KX_p) zyw_X_sky (fun va F G h => by obtain ⟨rfl, _⟩ := h; rfl) rfl fun good va F G hB hret hvret hP => by
  obtain ⟨rfl, rfl, rfl⟩ := hP
  unfold zf_X_sky at h
  refine zv_ild hB zd100_0 rfl rfl ?_
  refine zv_ild hB zd100_1 rfl rfl ?_
  obtain ⟨r1, hr1, h⟩ := zi_bind h
  refine zv_cs hB (show zv_Fn _ _ _ zy_X_sky _ _ [.inl x1, .inl x2] [.inr 3, .inr 1000, .inr 1000, .inl f3, .inl f4, .inl f5, .inl f6, .inl f7, .inl f8, .inl f9, .inl f10, .inl f11, .inl f12, .inl f13, .inl f14, .inl f15, .inl f16, .inl f17, .inl f18, .inl f19] [g0, g1, g2, g3, g4, g5, g6, g7, g8, g9, g10, g11, g12] (some r1) [.inr 3, .inr 1000, .inr 1000, .inl f3, .inl f4, .inl f5, .inl f6, .inl f7, .inl f8, .inl f9, .inl f10, .inl f11, .inl f12, .inl f13, .inl f14, .inl f15, .inl f16, .inl f17, .inl f18, .inl f19] [g0, g1, g2, g3, g4, g5, g6, g7, g8, g9, g10, g11, g12] from zv_emb (F := [.inr 3, .inr 1000, .inr 1000, .inl f3, .inl f4, .inl f5, .inl f6, .inl f7, .inl f8, .inl f9, .inl f10, .inl f11, .inl f12, .inl f13, .inl f14, .inl f15, .inl f16, .inl f17, .inl f18, .inl f19]) (G := [g0, g1, g2, g3, g4, g5, g6, g7, g8, g9, g10, g11, g12]) zyw_X_isPlace zyw_X_sky zye_X_sky (by decide +kernel : zv_ek zy_X_isPlace zy_X_sky [] [] [] = true) (zt_X_isPlace hr1) trivial trivial) zd100_2 zxt16 rfl (by decide) (by decide) rfl ?_
  refine zv_zeq hB zd100_5 rfl (fun hc2 => ?_) (fun hc2 => ?_)
  · rw [if_pos hc2] at h
    refine zv_con hB zd100_18 rfl ?_
    have hw := Option.some.inj h
    subst hw
    exact hret _ _ _ _ _ zd100_19 (by trivial) ⟨rfl, rfl, rfl⟩
  · rw [if_neg hc2] at h
    refine zv_ild hB zd100_8 rfl rfl ?_
    refine zv_con hB zd100_9 rfl ?_
    refine zv_con hB zd100_10 rfl ?_
    obtain ⟨r3, hr3, h⟩ := zi_bind h
    refine zv_cs hB (show zv_Fn _ _ _ zy_X_sky _ _ [.inl x3, .inl 0, .inl 6] [.inr 3, .inr 1000, .inr 1000, .inl f3, .inl f4, .inl f5, .inl f6, .inl f7, .inl f8, .inl f9, .inl f10, .inl f11, .inl f12, .inl f13, .inl f14, .inl f15, .inl f16, .inl f17, .inl f18, .inl f19] [g0, g1, g2, g3, g4, g5, g6, g7, g8, g9, g10, g11, g12] (some r3) [.inr 3, .inr 1000, .inr 1000, .inl f3, .inl f4, .inl f5, .inl f6, .inl f7, .inl f8, .inl f9, .inl f10, .inl f11, .inl f12, .inl f13, .inl f14, .inl f15, .inl f16, .inl f17, .inl f18, .inl f19] [g0, g1, g2, g3, g4, g5, g6, g7, g8, g9, g10, g11, g12] from zv_emb (F := [.inr 3, .inr 1000, .inr 1000, .inl f3, .inl f4, .inl f5, .inl f6, .inl f7, .inl f8, .inl f9, .inl f10, .inl f11, .inl f12, .inl f13, .inl f14, .inl f15, .inl f16, .inl f17, .inl f18, .inl f19]) (G := [g0, g1, g2, g3, g4, g5, g6, g7, g8, g9, g10, g11, g12]) zyw_X_isWithin zyw_X_sky zye_X_sky (by decide +kernel : zv_ek zy_X_isWithin zy_X_sky [] [] [] = true) (zt_X_isWithin hr3) trivial trivial) zd100_12 zxt15 rfl (by decide) (by decide) rfl ?_
    refine zv_zne hB zd100_15 rfl (fun hc4 => ?_) (fun hc4 => ?_)
    · rw [if_neg hc4] at h
      refine zv_ald hB zd100_20 rfl rfl rfl ?_
      refine zv_ald hB zd100_21 rfl rfl rfl ?_
      refine zv_getr hB zd100_22 rfl ?_
      refine zv_ild hB zd100_25 rfl rfl ?_
      refine zv_ild hB zd100_26 rfl rfl ?_
      obtain ⟨r5, hr5, h⟩ := zi_bind h
      refine zv_cv hB (show zv_Fn _ _ _ zy_X_sky _ _ [.inr 0, .inr 1, .inl x1, .inl x2] [.inr 3, .inr 1000, .inr 1000, .inl f3, .inl f4, .inl f5, .inl f6, .inl f7, .inl f8, .inl f9, .inl f10, .inl f11, .inl f12, .inl f13, .inl f14, .inl f15, .inl f16, .inl f17, .inl f18, .inl f19] [g0, g1, g2, g3, g4, g5, g6, g7, g8, g9, g10, g11, g12] none [.inr 3, .inr 2, .inr 3, .inl r5.1, .inl r5.2.1, .inl r5.2.2.1, .inl f6, .inl f7, .inl r5.2.2.2.1, .inl f9, .inl f10, .inl f11, .inl f12, .inl f13, .inl r5.2.2.2.2.1, .inl f15, .inl r5.2.2.2.2.2.1, .inl f17, .inl f18, .inl f19] [r5.2.2.2.2.2.2.1, r5.2.2.2.2.2.2.2.1, g2, g3, g4, g5, g6, g7, g8, r5.2.2.2.2.2.2.2.2.1, g10, r5.2.2.2.2.2.2.2.2.2.1, r5.2.2.2.2.2.2.2.2.2.2] from zv_emb (F := [.inr 3, .inr 1000, .inr 1000, .inl f3, .inl f4, .inl f5, .inl f6, .inl f7, .inl f8, .inl f9, .inl f10, .inl f11, .inl f12, .inl f13, .inl f14, .inl f15, .inl f16, .inl f17, .inl f18, .inl f19]) (G := [g0, g1, g2, g3, g4, g5, g6, g7, g8, g9, g10, g11, g12]) zyw_X_lookAndDraw zyw_X_sky zye_X_sky (by decide +kernel : zv_ek zy_X_lookAndDraw zy_X_sky [0, 1, 2, 3, 4, 5, 6, 7, 8, 9, 10, 11, 12, 13, 14, 15, 16] [0, 1, 2, 3, 4, 5, 6, 7, 8, 9, 10, 11, 12, 13, 14, 15, 16, 17, 18, 19] [0, 1, 2, 3, 4, 5, 6, 7, 8, 9, 10, 11, 12] = true) (zt_X_lookAndDraw hr5) ⟨⟨_, rfl, fun _ => rfl⟩, ⟨_, rfl, fun h => (Nat.lt_irrefl 1000 h).elim⟩, ⟨_, rfl, fun h => (Nat.lt_irrefl 1000 h).elim⟩, ⟨_, rfl, fun _ => rfl⟩, ⟨_, rfl, fun _ => rfl⟩, ⟨_, rfl, fun _ => rfl⟩, ⟨_, rfl, fun _ => rfl⟩, ⟨_, rfl, fun _ => rfl⟩, ⟨_, rfl, fun _ => rfl⟩, ⟨_, rfl, fun _ => rfl⟩, ⟨_, rfl, fun _ => rfl⟩, ⟨_, rfl, fun _ => rfl⟩, ⟨_, rfl, fun _ => rfl⟩, ⟨_, rfl, fun _ => rfl⟩, ⟨_, rfl, fun _ => rfl⟩, ⟨_, rfl, fun _ => rfl⟩, ⟨_, rfl, fun _ => rfl⟩, ⟨_, rfl, fun _ => rfl⟩, ⟨_, rfl, fun _ => rfl⟩, ⟨_, rfl, fun _ => rfl⟩, trivial⟩ ⟨rfl, rfl, rfl, rfl, rfl, rfl, rfl, rfl, rfl, rfl, rfl, rfl, rfl, trivial⟩) zd100_27 zxt96 rfl (by decide) (by decide) rfl ?_
      refine zv_ald hB zd100_30 rfl rfl rfl ?_
      refine zv_getr hB zd100_31 rfl ?_
      obtain ⟨r6, hr6, h⟩ := zi_bind h
      refine zv_cv hB (show zv_Fn _ _ _ zy_X_sky _ _ [.inr 1] [.inr 3, .inr 2, .inr 3, .inl r5.1, .inl r5.2.1, .inl r5.2.2.1, .inl f6, .inl f7, .inl r5.2.2.2.1, .inl f9, .inl f10, .inl f11, .inl f12, .inl f13, .inl r5.2.2.2.2.1, .inl f15, .inl r5.2.2.2.2.2.1, .inl f17, .inl f18, .inl f19] [r5.2.2.2.2.2.2.1, r5.2.2.2.2.2.2.2.1, g2, g3, g4, g5, g6, g7, g8, r5.2.2.2.2.2.2.2.2.1, g10, r5.2.2.2.2.2.2.2.2.2.1, r5.2.2.2.2.2.2.2.2.2.2] (some r6) [.inr 3, .inr 2, .inr 3, .inl r5.1, .inl r5.2.1, .inl r5.2.2.1, .inl f6, .inl f7, .inl r5.2.2.2.1, .inl f9, .inl f10, .inl f11, .inl f12, .inl f13, .inl r5.2.2.2.2.1, .inl f15, .inl r5.2.2.2.2.2.1, .inl f17, .inl f18, .inl f19] [r5.2.2.2.2.2.2.1, r5.2.2.2.2.2.2.2.1, g2, g3, g4, g5, g6, g7, g8, r5.2.2.2.2.2.2.2.2.1, g10, r5.2.2.2.2.2.2.2.2.2.1, r5.2.2.2.2.2.2.2.2.2.2] from zv_emb (F := [.inr 3, .inr 2, .inr 3, .inl r5.1, .inl r5.2.1, .inl r5.2.2.1, .inl f6, .inl f7, .inl r5.2.2.2.1, .inl f9, .inl f10, .inl f11, .inl f12, .inl f13, .inl r5.2.2.2.2.1, .inl f15, .inl r5.2.2.2.2.2.1, .inl f17, .inl f18, .inl f19]) (G := [r5.2.2.2.2.2.2.1, r5.2.2.2.2.2.2.2.1, g2, g3, g4, g5, g6, g7, g8, r5.2.2.2.2.2.2.2.2.1, g10, r5.2.2.2.2.2.2.2.2.2.1, r5.2.2.2.2.2.2.2.2.2.2]) zyw_View_countLines zyw_X_sky zye_X_sky (by decide +kernel : zv_ek zy_View_countLines zy_X_sky [1, 15] [] [11] = true) (zt_View_countLines hr6) trivial ⟨rfl, trivial⟩) zd100_34 zxt101 rfl (by decide) (by decide) rfl ?_
      refine zv_ist hB zd100_37 rfl rfl rfl ?_
      refine zv_ild hB zd100_39 rfl rfl ?_
      refine zv_tsw hB zd100_40 rfl ?_
      refine ⟨fun hc7 => ⟨_, rfl, ?_⟩, fun hc7 => ?_⟩
      · replace hc7 : x3 = 0 := hc7
        rw [if_pos hc7] at h
        refine zv_ild hB zd100_80 rfl rfl ?_
        have hw := Option.some.inj h
        refine zv_wk hB (L' := [.inr 0, .inl x1, .inl x2, .inl x3, .inl r6]) (F' := [.inr 3, .inr 1000, .inr 1000, .inl r5.1, .inl r5.2.1, .inl r5.2.2.1, .inl f6, .inl f7, .inl r5.2.2.2.1, .inl f9, .inl f10, .inl f11, .inl f12, .inl f13, .inl r5.2.2.2.2.1, .inl f15, .inl r5.2.2.2.2.2.1, .inl f17, .inl f18, .inl f19]) ⟨fun _ => rfl, fun _ => rfl, fun _ => rfl, fun _ => rfl, fun _ => rfl, trivial⟩ ⟨fun _ => rfl, fun h => (Nat.lt_irrefl 1000 h).elim, fun h => (Nat.lt_irrefl 1000 h).elim, fun _ => rfl, fun _ => rfl, fun _ => rfl, fun _ => rfl, fun _ => rfl, fun _ => rfl, fun _ => rfl, fun _ => rfl, fun _ => rfl, fun _ => rfl, fun _ => rfl, fun _ => rfl, fun _ => rfl, fun _ => rfl, fun _ => rfl, fun _ => rfl, fun _ => rfl, trivial⟩ ?_
        subst hw
        exact hret _ _ _ _ _ zd100_82 (by trivial) ⟨rfl, rfl, rfl⟩
      replace hc7 : x3 ≠ 0 := hc7
      rw [if_neg hc7] at h
      refine ⟨fun hc8 => ⟨_, rfl, ?_⟩, fun hc8 => ?_⟩
      · replace hc8 : x3 = 1 := hc8
        rw [if_pos hc8] at h
        refine zv_ald hB zd100_83 rfl rfl rfl ?_
        refine zv_getr hB zd100_84 rfl ?_
        obtain ⟨r9, hr9, h⟩ := zi_bind h
        refine zv_cv hB (show zv_Fn _ _ _ zy_X_sky _ _ [.inr 1] [.inr 3, .inr 2, .inr 3, .inl r5.1, .inl r5.2.1, .inl r5.2.2.1, .inl f6, .inl f7, .inl r5.2.2.2.1, .inl f9, .inl f10, .inl f11, .inl f12, .inl f13, .inl r5.2.2.2.2.1, .inl f15, .inl r5.2.2.2.2.2.1, .inl f17, .inl f18, .inl f19] [r5.2.2.2.2.2.2.1, r5.2.2.2.2.2.2.2.1, g2, g3, g4, g5, g6, g7, g8, r5.2.2.2.2.2.2.2.2.1, g10, r5.2.2.2.2.2.2.2.2.2.1, r5.2.2.2.2.2.2.2.2.2.2] (some r9) [.inr 3, .inr 2, .inr 3, .inl r5.1, .inl r5.2.1, .inl r5.2.2.1, .inl f6, .inl f7, .inl r5.2.2.2.1, .inl f9, .inl f10, .inl f11, .inl f12, .inl f13, .inl r5.2.2.2.2.1, .inl f15, .inl r5.2.2.2.2.2.1, .inl f17, .inl f18, .inl f19] [r5.2.2.2.2.2.2.1, r5.2.2.2.2.2.2.2.1, g2, g3, g4, g5, g6, g7, g8, r5.2.2.2.2.2.2.2.2.1, g10, r5.2.2.2.2.2.2.2.2.2.1, r5.2.2.2.2.2.2.2.2.2.2] from zv_emb (F := [.inr 3, .inr 2, .inr 3, .inl r5.1, .inl r5.2.1, .inl r5.2.2.1, .inl f6, .inl f7, .inl r5.2.2.2.1, .inl f9, .inl f10, .inl f11, .inl f12, .inl f13, .inl r5.2.2.2.2.1, .inl f15, .inl r5.2.2.2.2.2.1, .inl f17, .inl f18, .inl f19]) (G := [r5.2.2.2.2.2.2.1, r5.2.2.2.2.2.2.2.1, g2, g3, g4, g5, g6, g7, g8, r5.2.2.2.2.2.2.2.2.1, g10, r5.2.2.2.2.2.2.2.2.2.1, r5.2.2.2.2.2.2.2.2.2.2]) zyw_View_countFigures zyw_X_sky zye_X_sky (by decide +kernel : zv_ek zy_View_countFigures zy_X_sky [1, 15] [8] [11] = true) (zt_View_countFigures hr9) ⟨⟨_, rfl, fun _ => rfl⟩, trivial⟩ ⟨rfl, trivial⟩) zd100_87 zxt103 rfl (by decide) (by decide) rfl ?_
        have hw := Option.some.inj h
        refine zv_wk hB (L' := [.inr 0, .inl x1, .inl x2, .inl x3, .inl r6]) (F' := [.inr 3, .inr 1000, .inr 1000, .inl r5.1, .inl r5.2.1, .inl r5.2.2.1, .inl f6, .inl f7, .inl r5.2.2.2.1, .inl f9, .inl f10, .inl f11, .inl f12, .inl f13, .inl r5.2.2.2.2.1, .inl f15, .inl r5.2.2.2.2.2.1, .inl f17, .inl f18, .inl f19]) ⟨fun _ => rfl, fun _ => rfl, fun _ => rfl, fun _ => rfl, fun _ => rfl, trivial⟩ ⟨fun _ => rfl, fun h => (Nat.lt_irrefl 1000 h).elim, fun h => (Nat.lt_irrefl 1000 h).elim, fun _ => rfl, fun _ => rfl, fun _ => rfl, fun _ => rfl, fun _ => rfl, fun _ => rfl, fun _ => rfl, fun _ => rfl, fun _ => rfl, fun _ => rfl, fun _ => rfl, fun _ => rfl, fun _ => rfl, fun _ => rfl, fun _ => rfl, fun _ => rfl, fun _ => rfl, trivial⟩ ?_
        subst hw
        exact hret _ _ _ _ _ zd100_90 (by trivial) ⟨rfl, rfl, rfl⟩
      replace hc8 : x3 ≠ 1 := hc8
      rw [if_neg hc8] at h
      refine ⟨fun hc10 => ⟨_, rfl, ?_⟩, fun hc10 => ?_⟩
      · replace hc10 : x3 = 2 := hc10
        rw [if_pos hc10] at h
        refine zv_ald hB zd100_91 rfl rfl rfl ?_
        refine zv_getr hB zd100_92 rfl ?_
        obtain ⟨r11, hr11, h⟩ := zi_bind h
        refine zv_cv hB (show zv_Fn _ _ _ zy_X_sky _ _ [.inr 1] [.inr 3, .inr 2, .inr 3, .inl r5.1, .inl r5.2.1, .inl r5.2.2.1, .inl f6, .inl f7, .inl r5.2.2.2.1, .inl f9, .inl f10, .inl f11, .inl f12, .inl f13, .inl r5.2.2.2.2.1, .inl f15, .inl r5.2.2.2.2.2.1, .inl f17, .inl f18, .inl f19] [r5.2.2.2.2.2.2.1, r5.2.2.2.2.2.2.2.1, g2, g3, g4, g5, g6, g7, g8, r5.2.2.2.2.2.2.2.2.1, g10, r5.2.2.2.2.2.2.2.2.2.1, r5.2.2.2.2.2.2.2.2.2.2] (some r11) [.inr 3, .inr 2, .inr 3, .inl r5.1, .inl r5.2.1, .inl r5.2.2.1, .inl f6, .inl f7, .inl r5.2.2.2.1, .inl f9, .inl f10, .inl f11, .inl f12, .inl f13, .inl r5.2.2.2.2.1, .inl f15, .inl r5.2.2.2.2.2.1, .inl f17, .inl f18, .inl f19] [r5.2.2.2.2.2.2.1, r5.2.2.2.2.2.2.2.1, g2, g3, g4, g5, g6, g7, g8, r5.2.2.2.2.2.2.2.2.1, g10, r5.2.2.2.2.2.2.2.2.2.1, r5.2.2.2.2.2.2.2.2.2.2] from zv_emb (F := [.inr 3, .inr 2, .inr 3, .inl r5.1, .inl r5.2.1, .inl r5.2.2.1, .inl f6, .inl f7, .inl r5.2.2.2.1, .inl f9, .inl f10, .inl f11, .inl f12, .inl f13, .inl r5.2.2.2.2.1, .inl f15, .inl r5.2.2.2.2.2.1, .inl f17, .inl f18, .inl f19]) (G := [r5.2.2.2.2.2.2.1, r5.2.2.2.2.2.2.2.1, g2, g3, g4, g5, g6, g7, g8, r5.2.2.2.2.2.2.2.2.1, g10, r5.2.2.2.2.2.2.2.2.2.1, r5.2.2.2.2.2.2.2.2.2.2]) zyw_View_largestFigure zyw_X_sky zye_X_sky (by decide +kernel : zv_ek zy_View_largestFigure zy_X_sky [1, 15] [8] [11] = true) (zt_View_largestFigure hr11) ⟨⟨_, rfl, fun _ => rfl⟩, trivial⟩ ⟨rfl, trivial⟩) zd100_95 zxt106 rfl (by decide) (by decide) rfl ?_
        have hw := Option.some.inj h
        refine zv_wk hB (L' := [.inr 0, .inl x1, .inl x2, .inl x3, .inl r6]) (F' := [.inr 3, .inr 1000, .inr 1000, .inl r5.1, .inl r5.2.1, .inl r5.2.2.1, .inl f6, .inl f7, .inl r5.2.2.2.1, .inl f9, .inl f10, .inl f11, .inl f12, .inl f13, .inl r5.2.2.2.2.1, .inl f15, .inl r5.2.2.2.2.2.1, .inl f17, .inl f18, .inl f19]) ⟨fun _ => rfl, fun _ => rfl, fun _ => rfl, fun _ => rfl, fun _ => rfl, trivial⟩ ⟨fun _ => rfl, fun h => (Nat.lt_irrefl 1000 h).elim, fun h => (Nat.lt_irrefl 1000 h).elim, fun _ => rfl, fun _ => rfl, fun _ => rfl, fun _ => rfl, fun _ => rfl, fun _ => rfl, fun _ => rfl, fun _ => rfl, fun _ => rfl, fun _ => rfl, fun _ => rfl, fun _ => rfl, fun _ => rfl, fun _ => rfl, fun _ => rfl, fun _ => rfl, fun _ => rfl, trivial⟩ ?_
        subst hw
        exact hret _ _ _ _ _ zd100_98 (by trivial) ⟨rfl, rfl, rfl⟩
      replace hc10 : x3 ≠ 2 := hc10
      rw [if_neg hc10] at h
      refine ⟨fun hc12 => ⟨_, rfl, ?_⟩, fun hc12 => ?_⟩
      · replace hc12 : x3 = 3 := hc12
        rw [if_pos hc12] at h
        refine zv_ild hB zd100_99 rfl rfl ?_
        refine zv_ald hB zd100_101 rfl rfl rfl ?_
        refine zv_getr hB zd100_102 rfl ?_
        refine zv_getf hB zd100_105 rfl rfl (fun _ _ => ?_)
        obtain ⟨r13, hr13, h⟩ := zi_bind h
        refine zv_cs hB (show zv_Fn _ _ _ zy_X_sky _ _ [.inl r5.2.2.2.1] [.inr 3, .inr 2, .inr 3, .inl r5.1, .inl r5.2.1, .inl r5.2.2.1, .inl f6, .inl f7, .inl r5.2.2.2.1, .inl f9, .inl f10, .inl f11, .inl f12, .inl f13, .inl r5.2.2.2.2.1, .inl f15, .inl r5.2.2.2.2.2.1, .inl f17, .inl f18, .inl f19] [r5.2.2.2.2.2.2.1, r5.2.2.2.2.2.2.2.1, g2, g3, g4, g5, g6, g7, g8, r5.2.2.2.2.2.2.2.2.1, g10, r5.2.2.2.2.2.2.2.2.2.1, r5.2.2.2.2.2.2.2.2.2.2] (some r13) [.inr 3, .inr 2, .inr 3, .inl r5.1, .inl r5.2.1, .inl r5.2.2.1, .inl f6, .inl f7, .inl r5.2.2.2.1, .inl f9, .inl f10, .inl f11, .inl f12, .inl f13, .inl r5.2.2.2.2.1, .inl f15, .inl r5.2.2.2.2.2.1, .inl f17, .inl f18, .inl f19] [r5.2.2.2.2.2.2.1, r5.2.2.2.2.2.2.2.1, g2, g3, g4, g5, g6, g7, g8, r5.2.2.2.2.2.2.2.2.1, g10, r5.2.2.2.2.2.2.2.2.2.1, r5.2.2.2.2.2.2.2.2.2.2] from zv_emb (F := [.inr 3, .inr 2, .inr 3, .inl r5.1, .inl r5.2.1, .inl r5.2.2.1, .inl f6, .inl f7, .inl r5.2.2.2.1, .inl f9, .inl f10, .inl f11, .inl f12, .inl f13, .inl r5.2.2.2.2.1, .inl f15, .inl r5.2.2.2.2.2.1, .inl f17, .inl f18, .inl f19]) (G := [r5.2.2.2.2.2.2.1, r5.2.2.2.2.2.2.2.1, g2, g3, g4, g5, g6, g7, g8, r5.2.2.2.2.2.2.2.2.1, g10, r5.2.2.2.2.2.2.2.2.2.1, r5.2.2.2.2.2.2.2.2.2.2]) zyw_Integer_bitCount zyw_X_sky zye_X_sky (by decide +kernel : zv_ek zy_Integer_bitCount zy_X_sky [] [] [] = true) (zt_Integer_bitCount hr13) trivial trivial) zd100_108 zxt102 rfl (by decide) (by decide) rfl ?_
        refine zv_subw hB zd100_111 ?_
        refine zv_ald hB zd100_112 rfl rfl rfl ?_
        refine zv_getr hB zd100_113 rfl ?_
        obtain ⟨r14, hr14, h⟩ := zi_bind h
        refine zv_cv hB (show zv_Fn _ _ _ zy_X_sky _ _ [.inr 1] [.inr 3, .inr 2, .inr 3, .inl r5.1, .inl r5.2.1, .inl r5.2.2.1, .inl f6, .inl f7, .inl r5.2.2.2.1, .inl f9, .inl f10, .inl f11, .inl f12, .inl f13, .inl r5.2.2.2.2.1, .inl f15, .inl r5.2.2.2.2.2.1, .inl f17, .inl f18, .inl f19] [r5.2.2.2.2.2.2.1, r5.2.2.2.2.2.2.2.1, g2, g3, g4, g5, g6, g7, g8, r5.2.2.2.2.2.2.2.2.1, g10, r5.2.2.2.2.2.2.2.2.2.1, r5.2.2.2.2.2.2.2.2.2.2] (some r14) [.inr 3, .inr 2, .inr 3, .inl r5.1, .inl r5.2.1, .inl r5.2.2.1, .inl f6, .inl f7, .inl r5.2.2.2.1, .inl f9, .inl f10, .inl f11, .inl f12, .inl f13, .inl r5.2.2.2.2.1, .inl f15, .inl r5.2.2.2.2.2.1, .inl f17, .inl f18, .inl f19] [r5.2.2.2.2.2.2.1, r5.2.2.2.2.2.2.2.1, g2, g3, g4, g5, g6, g7, g8, r5.2.2.2.2.2.2.2.2.1, g10, r5.2.2.2.2.2.2.2.2.2.1, r5.2.2.2.2.2.2.2.2.2.2] from zv_emb (F := [.inr 3, .inr 2, .inr 3, .inl r5.1, .inl r5.2.1, .inl r5.2.2.1, .inl f6, .inl f7, .inl r5.2.2.2.1, .inl f9, .inl f10, .inl f11, .inl f12, .inl f13, .inl r5.2.2.2.2.1, .inl f15, .inl r5.2.2.2.2.2.1, .inl f17, .inl f18, .inl f19]) (G := [r5.2.2.2.2.2.2.1, r5.2.2.2.2.2.2.2.1, g2, g3, g4, g5, g6, g7, g8, r5.2.2.2.2.2.2.2.2.1, g10, r5.2.2.2.2.2.2.2.2.2.1, r5.2.2.2.2.2.2.2.2.2.2]) zyw_View_countFigures zyw_X_sky zye_X_sky (by decide +kernel : zv_ek zy_View_countFigures zy_X_sky [1, 15] [8] [11] = true) (zt_View_countFigures hr14) ⟨⟨_, rfl, fun _ => rfl⟩, trivial⟩ ⟨rfl, trivial⟩) zd100_116 zxt103 rfl (by decide) (by decide) rfl ?_
        refine zv_addw hB zd100_119 ?_
        have hw := Option.some.inj h
        refine zv_wk hB (L' := [.inr 0, .inl x1, .inl x2, .inl x3, .inl r6]) (F' := [.inr 3, .inr 1000, .inr 1000, .inl r5.1, .inl r5.2.1, .inl r5.2.2.1, .inl f6, .inl f7, .inl r5.2.2.2.1, .inl f9, .inl f10, .inl f11, .inl f12, .inl f13, .inl r5.2.2.2.2.1, .inl f15, .inl r5.2.2.2.2.2.1, .inl f17, .inl f18, .inl f19]) ⟨fun _ => rfl, fun _ => rfl, fun _ => rfl, fun _ => rfl, fun _ => rfl, trivial⟩ ⟨fun _ => rfl, fun h => (Nat.lt_irrefl 1000 h).elim, fun h => (Nat.lt_irrefl 1000 h).elim, fun _ => rfl, fun _ => rfl, fun _ => rfl, fun _ => rfl, fun _ => rfl, fun _ => rfl, fun _ => rfl, fun _ => rfl, fun _ => rfl, fun _ => rfl, fun _ => rfl, fun _ => rfl, fun _ => rfl, fun _ => rfl, fun _ => rfl, fun _ => rfl, fun _ => rfl, trivial⟩ ?_
        subst hw
        exact hret _ _ _ _ _ zd100_120 (by trivial) ⟨rfl, rfl, rfl⟩
      replace hc12 : x3 ≠ 3 := hc12
      rw [if_neg hc12] at h
      refine ⟨fun hc15 => ⟨_, rfl, ?_⟩, fun hc15 => ?_⟩
      · replace hc15 : x3 = 4 := hc15
        rw [if_pos hc15] at h
        refine zv_ald hB zd100_121 rfl rfl rfl ?_
        refine zv_getr hB zd100_122 rfl ?_
        obtain ⟨r16, hr16, h⟩ := zi_bind h
        refine zv_cv hB (show zv_Fn _ _ _ zy_X_sky _ _ [.inr 1] [.inr 3, .inr 2, .inr 3, .inl r5.1, .inl r5.2.1, .inl r5.2.2.1, .inl f6, .inl f7, .inl r5.2.2.2.1, .inl f9, .inl f10, .inl f11, .inl f12, .inl f13, .inl r5.2.2.2.2.1, .inl f15, .inl r5.2.2.2.2.2.1, .inl f17, .inl f18, .inl f19] [r5.2.2.2.2.2.2.1, r5.2.2.2.2.2.2.2.1, g2, g3, g4, g5, g6, g7, g8, r5.2.2.2.2.2.2.2.2.1, g10, r5.2.2.2.2.2.2.2.2.2.1, r5.2.2.2.2.2.2.2.2.2.2] (some r16) [.inr 3, .inr 2, .inr 3, .inl r5.1, .inl r5.2.1, .inl r5.2.2.1, .inl f6, .inl f7, .inl r5.2.2.2.1, .inl f9, .inl f10, .inl f11, .inl f12, .inl f13, .inl r5.2.2.2.2.1, .inl f15, .inl r5.2.2.2.2.2.1, .inl f17, .inl f18, .inl f19] [r5.2.2.2.2.2.2.1, r5.2.2.2.2.2.2.2.1, g2, g3, g4, g5, g6, g7, g8, r5.2.2.2.2.2.2.2.2.1, g10, r5.2.2.2.2.2.2.2.2.2.1, r5.2.2.2.2.2.2.2.2.2.2] from zv_emb (F := [.inr 3, .inr 2, .inr 3, .inl r5.1, .inl r5.2.1, .inl r5.2.2.1, .inl f6, .inl f7, .inl r5.2.2.2.1, .inl f9, .inl f10, .inl f11, .inl f12, .inl f13, .inl r5.2.2.2.2.1, .inl f15, .inl r5.2.2.2.2.2.1, .inl f17, .inl f18, .inl f19]) (G := [r5.2.2.2.2.2.2.1, r5.2.2.2.2.2.2.2.1, g2, g3, g4, g5, g6, g7, g8, r5.2.2.2.2.2.2.2.2.1, g10, r5.2.2.2.2.2.2.2.2.2.1, r5.2.2.2.2.2.2.2.2.2.2]) zyw_View_countHolding zyw_X_sky zye_X_sky (by decide +kernel : zv_ek zy_View_countHolding zy_X_sky [1, 15] [] [11] = true) (zt_View_countHolding hr16) trivial ⟨rfl, trivial⟩) zd100_125 zxt107 rfl (by decide) (by decide) rfl ?_
        have hw := Option.some.inj h
        refine zv_wk hB (L' := [.inr 0, .inl x1, .inl x2, .inl x3, .inl r6]) (F' := [.inr 3, .inr 1000, .inr 1000, .inl r5.1, .inl r5.2.1, .inl r5.2.2.1, .inl f6, .inl f7, .inl r5.2.2.2.1, .inl f9, .inl f10, .inl f11, .inl f12, .inl f13, .inl r5.2.2.2.2.1, .inl f15, .inl r5.2.2.2.2.2.1, .inl f17, .inl f18, .inl f19]) ⟨fun _ => rfl, fun _ => rfl, fun _ => rfl, fun _ => rfl, fun _ => rfl, trivial⟩ ⟨fun _ => rfl, fun h => (Nat.lt_irrefl 1000 h).elim, fun h => (Nat.lt_irrefl 1000 h).elim, fun _ => rfl, fun _ => rfl, fun _ => rfl, fun _ => rfl, fun _ => rfl, fun _ => rfl, fun _ => rfl, fun _ => rfl, fun _ => rfl, fun _ => rfl, fun _ => rfl, fun _ => rfl, fun _ => rfl, fun _ => rfl, fun _ => rfl, fun _ => rfl, fun _ => rfl, trivial⟩ ?_
        subst hw
        exact hret _ _ _ _ _ zd100_128 (by trivial) ⟨rfl, rfl, rfl⟩
      replace hc15 : x3 ≠ 4 := hc15
      rw [if_neg hc15] at h
      refine ⟨fun hc17 => ⟨_, rfl, ?_⟩, fun hc17 => ?_⟩
      · replace hc17 : x3 = 5 := hc17
        rw [if_pos hc17] at h
        refine zv_ald hB zd100_129 rfl rfl rfl ?_
        refine zv_getr hB zd100_130 rfl ?_
        obtain ⟨r18, hr18, h⟩ := zi_bind h
        refine zv_cv hB (show zv_Fn _ _ _ zy_X_sky _ _ [.inr 1] [.inr 3, .inr 2, .inr 3, .inl r5.1, .inl r5.2.1, .inl r5.2.2.1, .inl f6, .inl f7, .inl r5.2.2.2.1, .inl f9, .inl f10, .inl f11, .inl f12, .inl f13, .inl r5.2.2.2.2.1, .inl f15, .inl r5.2.2.2.2.2.1, .inl f17, .inl f18, .inl f19] [r5.2.2.2.2.2.2.1, r5.2.2.2.2.2.2.2.1, g2, g3, g4, g5, g6, g7, g8, r5.2.2.2.2.2.2.2.2.1, g10, r5.2.2.2.2.2.2.2.2.2.1, r5.2.2.2.2.2.2.2.2.2.2] (some r18) [.inr 3, .inr 2, .inr 3, .inl r5.1, .inl r5.2.1, .inl r5.2.2.1, .inl f6, .inl f7, .inl r5.2.2.2.1, .inl f9, .inl f10, .inl f11, .inl f12, .inl f13, .inl r5.2.2.2.2.1, .inl f15, .inl r5.2.2.2.2.2.1, .inl f17, .inl f18, .inl f19] [r5.2.2.2.2.2.2.1, r5.2.2.2.2.2.2.2.1, g2, g3, g4, g5, g6, g7, g8, r5.2.2.2.2.2.2.2.2.1, g10, r5.2.2.2.2.2.2.2.2.2.1, r5.2.2.2.2.2.2.2.2.2.2] from zv_emb (F := [.inr 3, .inr 2, .inr 3, .inl r5.1, .inl r5.2.1, .inl r5.2.2.1, .inl f6, .inl f7, .inl r5.2.2.2.1, .inl f9, .inl f10, .inl f11, .inl f12, .inl f13, .inl r5.2.2.2.2.1, .inl f15, .inl r5.2.2.2.2.2.1, .inl f17, .inl f18, .inl f19]) (G := [r5.2.2.2.2.2.2.1, r5.2.2.2.2.2.2.2.1, g2, g3, g4, g5, g6, g7, g8, r5.2.2.2.2.2.2.2.2.1, g10, r5.2.2.2.2.2.2.2.2.2.1, r5.2.2.2.2.2.2.2.2.2.2]) zyw_View_mostLegged zyw_X_sky zye_X_sky (by decide +kernel : zv_ek zy_View_mostLegged zy_X_sky [1, 15] [8] [11] = true) (zt_View_mostLegged hr18) ⟨⟨_, rfl, fun _ => rfl⟩, trivial⟩ ⟨rfl, trivial⟩) zd100_133 zxt108 rfl (by decide) (by decide) rfl ?_
        have hw := Option.some.inj h
        refine zv_wk hB (L' := [.inr 0, .inl x1, .inl x2, .inl x3, .inl r6]) (F' := [.inr 3, .inr 1000, .inr 1000, .inl r5.1, .inl r5.2.1, .inl r5.2.2.1, .inl f6, .inl f7, .inl r5.2.2.2.1, .inl f9, .inl f10, .inl f11, .inl f12, .inl f13, .inl r5.2.2.2.2.1, .inl f15, .inl r5.2.2.2.2.2.1, .inl f17, .inl f18, .inl f19]) ⟨fun _ => rfl, fun _ => rfl, fun _ => rfl, fun _ => rfl, fun _ => rfl, trivial⟩ ⟨fun _ => rfl, fun h => (Nat.lt_irrefl 1000 h).elim, fun h => (Nat.lt_irrefl 1000 h).elim, fun _ => rfl, fun _ => rfl, fun _ => rfl, fun _ => rfl, fun _ => rfl, fun _ => rfl, fun _ => rfl, fun _ => rfl, fun _ => rfl, fun _ => rfl, fun _ => rfl, fun _ => rfl, fun _ => rfl, fun _ => rfl, fun _ => rfl, fun _ => rfl, fun _ => rfl, trivial⟩ ?_
        subst hw
        exact hret _ _ _ _ _ zd100_136 (by trivial) ⟨rfl, rfl, rfl⟩
      replace hc17 : x3 ≠ 5 := hc17
      rw [if_neg hc17] at h
      refine ⟨_, rfl, ?_⟩
      refine zv_ald hB zd100_137 rfl rfl rfl ?_
      refine zv_getr hB zd100_138 rfl ?_
      refine zv_ald hB zd100_141 rfl rfl rfl ?_
      refine zv_getr hB zd100_142 rfl ?_
      obtain ⟨r19, hr19, h⟩ := zi_bind h
      refine zv_cv hB (show zv_Fn _ _ _ zy_X_sky _ _ [.inr 1] [.inr 3, .inr 2, .inr 3, .inl r5.1, .inl r5.2.1, .inl r5.2.2.1, .inl f6, .inl f7, .inl r5.2.2.2.1, .inl f9, .inl f10, .inl f11, .inl f12, .inl f13, .inl r5.2.2.2.2.1, .inl f15, .inl r5.2.2.2.2.2.1, .inl f17, .inl f18, .inl f19] [r5.2.2.2.2.2.2.1, r5.2.2.2.2.2.2.2.1, g2, g3, g4, g5, g6, g7, g8, r5.2.2.2.2.2.2.2.2.1, g10, r5.2.2.2.2.2.2.2.2.2.1, r5.2.2.2.2.2.2.2.2.2.2] (some r19) [.inr 3, .inr 2, .inr 3, .inl r5.1, .inl r5.2.1, .inl r5.2.2.1, .inl f6, .inl f7, .inl r5.2.2.2.1, .inl f9, .inl f10, .inl f11, .inl f12, .inl f13, .inl r5.2.2.2.2.1, .inl f15, .inl r5.2.2.2.2.2.1, .inl f17, .inl f18, .inl f19] [r5.2.2.2.2.2.2.1, r5.2.2.2.2.2.2.2.1, g2, g3, g4, g5, g6, g7, g8, r5.2.2.2.2.2.2.2.2.1, g10, r5.2.2.2.2.2.2.2.2.2.1, r5.2.2.2.2.2.2.2.2.2.2] from zv_emb (F := [.inr 3, .inr 2, .inr 3, .inl r5.1, .inl r5.2.1, .inl r5.2.2.1, .inl f6, .inl f7, .inl r5.2.2.2.1, .inl f9, .inl f10, .inl f11, .inl f12, .inl f13, .inl r5.2.2.2.2.1, .inl f15, .inl r5.2.2.2.2.2.1, .inl f17, .inl f18, .inl f19]) (G := [r5.2.2.2.2.2.2.1, r5.2.2.2.2.2.2.2.1, g2, g3, g4, g5, g6, g7, g8, r5.2.2.2.2.2.2.2.2.1, g10, r5.2.2.2.2.2.2.2.2.2.1, r5.2.2.2.2.2.2.2.2.2.2]) zyw_View_mostLegged zyw_X_sky zye_X_sky (by decide +kernel : zv_ek zy_View_mostLegged zy_X_sky [1, 15] [8] [11] = true) (zt_View_mostLegged hr19) ⟨⟨_, rfl, fun _ => rfl⟩, trivial⟩ ⟨rfl, trivial⟩) zd100_145 zxt108 rfl (by decide) (by decide) rfl ?_
      obtain ⟨r20, hr20, h⟩ := zi_bind h
      refine zv_cv hB (show zv_Fn _ _ _ zy_X_sky _ _ [.inr 1, .inl r19] [.inr 3, .inr 2, .inr 3, .inl r5.1, .inl r5.2.1, .inl r5.2.2.1, .inl f6, .inl f7, .inl r5.2.2.2.1, .inl f9, .inl f10, .inl f11, .inl f12, .inl f13, .inl r5.2.2.2.2.1, .inl f15, .inl r5.2.2.2.2.2.1, .inl f17, .inl f18, .inl f19] [r5.2.2.2.2.2.2.1, r5.2.2.2.2.2.2.2.1, g2, g3, g4, g5, g6, g7, g8, r5.2.2.2.2.2.2.2.2.1, g10, r5.2.2.2.2.2.2.2.2.2.1, r5.2.2.2.2.2.2.2.2.2.2] (some r20) [.inr 3, .inr 2, .inr 3, .inl r5.1, .inl r5.2.1, .inl r5.2.2.1, .inl f6, .inl f7, .inl r5.2.2.2.1, .inl f9, .inl f10, .inl f11, .inl f12, .inl f13, .inl r5.2.2.2.2.1, .inl f15, .inl r5.2.2.2.2.2.1, .inl f17, .inl f18, .inl f19] [r5.2.2.2.2.2.2.1, r5.2.2.2.2.2.2.2.1, g2, g3, g4, g5, g6, g7, g8, r5.2.2.2.2.2.2.2.2.1, g10, r5.2.2.2.2.2.2.2.2.2.1, r5.2.2.2.2.2.2.2.2.2.2] from zv_emb (F := [.inr 3, .inr 2, .inr 3, .inl r5.1, .inl r5.2.1, .inl r5.2.2.1, .inl f6, .inl f7, .inl r5.2.2.2.1, .inl f9, .inl f10, .inl f11, .inl f12, .inl f13, .inl r5.2.2.2.2.1, .inl f15, .inl r5.2.2.2.2.2.1, .inl f17, .inl f18, .inl f19]) (G := [r5.2.2.2.2.2.2.1, r5.2.2.2.2.2.2.2.1, g2, g3, g4, g5, g6, g7, g8, r5.2.2.2.2.2.2.2.2.1, g10, r5.2.2.2.2.2.2.2.2.2.1, r5.2.2.2.2.2.2.2.2.2.2]) zyw_View_legsOf zyw_X_sky zye_X_sky (by decide +kernel : zv_ek zy_View_legsOf zy_X_sky [1, 15] [] [11] = true) (zt_View_legsOf hr20) trivial ⟨rfl, trivial⟩) zd100_148 zxt109 rfl (by decide) (by decide) rfl ?_
      have hw := Option.some.inj h
      refine zv_wk hB (L' := [.inr 0, .inl x1, .inl x2, .inl x3, .inl r6]) (F' := [.inr 3, .inr 1000, .inr 1000, .inl r5.1, .inl r5.2.1, .inl r5.2.2.1, .inl f6, .inl f7, .inl r5.2.2.2.1, .inl f9, .inl f10, .inl f11, .inl f12, .inl f13, .inl r5.2.2.2.2.1, .inl f15, .inl r5.2.2.2.2.2.1, .inl f17, .inl f18, .inl f19]) ⟨fun _ => rfl, fun _ => rfl, fun _ => rfl, fun _ => rfl, fun _ => rfl, trivial⟩ ⟨fun _ => rfl, fun h => (Nat.lt_irrefl 1000 h).elim, fun h => (Nat.lt_irrefl 1000 h).elim, fun _ => rfl, fun _ => rfl, fun _ => rfl, fun _ => rfl, fun _ => rfl, fun _ => rfl, fun _ => rfl, fun _ => rfl, fun _ => rfl, fun _ => rfl, fun _ => rfl, fun _ => rfl, fun _ => rfl, fun _ => rfl, fun _ => rfl, fun _ => rfl, fun _ => rfl, trivial⟩ ?_
      subst hw
      exact hret _ _ _ _ _ zd100_151 (by trivial) ⟨rfl, rfl, rfl⟩
    · rw [if_pos hc4] at h
      refine zv_con hB zd100_18 rfl ?_
      have hw := Option.some.inj h
      subst hw
      exact hret _ _ _ _ _ zd100_19 (by trivial) ⟨rfl, rfl, rfl⟩
/-! X_figure (III)I -/
-- names: 0 StarTales('arg', 0), 1 Sky(0, 0, 0), 2 View(0, 0, 12), 3 Law(0, 0, 7), 4 (0, 24)(2, 7, 8), 5 (0, 13)(3, 4, 12), 6 (0, 24)(1, 1, 1), 7 (0, 24)(1, 1, 2), 8 (0, 24)(1, 1, 3), 9 (0, 14)(3, 4, 3), 10 (0, 14)(3, 4, 5), 11 (0, 14)(3, 4, 6), 12 (0, 200)(3, 4, 0), 13 (0, 40)(3, 4, 13), 14 (0, 200)(3, 4, 1), 15 (0, 24)(2, 7, 5), 16 (0, 24)(2, 7, 9)
-- fields: f0 = 1.told_, f1 = 0.ruling_, f2 = 2.sky_, f3 = 2.law_, f4 = 2.starsAsked_, f5 = 2.x_, f6 = 2.y_, f7 = 1.hour_, f8 = 1.night_, f9 = 2.shown_, f10 = 1.sightColumns_, f11 = 1.sightRows_, f12 = 1.clouds_, f13 = 3.tellsSeen_, f14 = 2.starsHold_, f15 = 3.clauses_, f16 = 3.answer_, f17 = 3.seenByPlace_, f18 = 3.tellsLines_, f19 = 3.linesByPlace_; arrays: g0 = 4, g1 = 5, g2 = 6, g3 = 7, g4 = 8, g5 = 9, g6 = 10, g7 = 11, g8 = 12, g9 = 13, g10 = 14, g11 = 15, g12 = 16; out: [('ret', None), ('f', 4), ('f', 5), ('f', 6), ('f', 9), ('f', 14), ('f', 16), ('g', 0), ('g', 1), ('g', 9), ('g', 11), ('g', 12)]
abbrev zy_X_figure : zNL := (17, [(0, 0), (1, 1), (2, 7), (3, 4)], [(1, 1, 0, 0), (0, 0, 7, 1), (2, 7, 0, 2), (2, 7, 1, 3), (2, 7, 6, 4), (2, 7, 2, 5), (2, 7, 3, 6), (1, 1, 6, 7), (1, 1, 7, 8), (2, 7, 4, 9), (1, 1, 9, 10), (1, 1, 10, 11), (1, 1, 8, 12), (3, 4, 8, 13), (2, 7, 7, 14), (3, 4, 7, 15), (3, 4, 14, 16), (3, 4, 10, 17), (3, 4, 9, 18), (3, 4, 11, 19)], [(0, 0, 0, 1), (0, 0, 12, 2), (2, 7, 8, 4), (3, 4, 12, 5), (1, 1, 1, 6), (1, 1, 2, 7), (1, 1, 3, 8), (3, 4, 3, 9), (3, 4, 5, 10), (3, 4, 6, 11), (3, 4, 0, 12), (3, 4, 13, 13), (3, 4, 1, 14), (2, 7, 5, 15), (2, 7, 9, 16)], [(4, 0, 24, 0), (5, 0, 13, 1), (6, 0, 24, 2), (7, 0, 24, 3), (8, 0, 24, 4), (9, 0, 14, 5), (10, 0, 14, 6), (11, 0, 14, 7), (12, 0, 200, 8), (13, 0, 40, 9), (14, 0, 200, 10), (15, 0, 24, 11), (16, 0, 24, 12)])
theorem zyw_X_figure : zv_wf zy_X_figure = true := by decide +kernel
theorem zye_X_figure : zv_ek2 zy_X_figure = true := by decide +kernel
def zf_X_figure (x1 : Int) (x2 : Int) (x3 : Int) (f0 : Int) (f4 : Int) (f5 : Int) (f6 : Int) (f7 : Int) (f8 : Int) (f9 : Int) (f10 : Int) (f11 : Int) (f12 : Int) (f13 : Int) (f14 : Int) (f15 : Int) (f16 : Int) (f17 : Int) (f18 : Int) (f19 : Int) (g0 : (Int → Int)) (g1 : (Int → Int)) (g2 : (Int → Int)) (g3 : (Int → Int)) (g4 : (Int → Int)) (g5 : (Int → Int)) (g6 : (Int → Int)) (g7 : (Int → Int)) (g8 : (Int → Int)) (g9 : (Int → Int)) (g10 : (Int → Int)) (g11 : (Int → Int)) (g12 : (Int → Int)) : Option (Int × Int × Int × Int × Int × Int × Int × (Int → Int) × (Int → Int) × (Int → Int) × (Int → Int) × (Int → Int)) := (zf_X_isPlace x1 x2).bind fun r1 => (if r1 = 0 then (some ((-1), f4, f5, f6, f9, f14, f16, g0, g1, g9, g11, g12)) else ((zf_Sky_hasStar x3 f0).bind fun r3 => (if r3 = 0 then (some ((-1), f4, f5, f6, f9, f14, f16, g0, g1, g9, g11, g12)) else ((zf_X_lookAndDraw x1 x2 f4 f5 f6 f7 f8 f9 f0 f10 f11 f12 f13 f14 f15 f16 f17 f18 f19 g0 g1 g2 g3 g4 g5 g6 g7 g8 g9 g10 g11 g12).bind fun r5 => (if (zi_and (zi_shr r5.2.2.2.1 x3) 1) = 0 then (some ((-2), r5.1, r5.2.1, r5.2.2.1, r5.2.2.2.1, r5.2.2.2.2.1, r5.2.2.2.2.2.1, r5.2.2.2.2.2.2.1, r5.2.2.2.2.2.2.2.1, r5.2.2.2.2.2.2.2.2.1, r5.2.2.2.2.2.2.2.2.2.1, r5.2.2.2.2.2.2.2.2.2.2)) else ((zf_View_reach x3 (-1) (-1) r5.2.2.2.2.2.2.2.2.2.1).bind fun r7 => (some (r7, r5.1, r5.2.1, r5.2.2.1, r5.2.2.2.1, r5.2.2.2.2.1, r5.2.2.2.2.2.1, r5.2.2.2.2.2.2.1, r5.2.2.2.2.2.2.2.1, r5.2.2.2.2.2.2.2.2.1, r5.2.2.2.2.2.2.2.2.2.1, r5.2.2.2.2.2.2.2.2.2.2))))))))
theorem zd110_0 : decode zxm110.2.1 0 = .ok (.iload_n 1, 1) := by decide +kernel
theorem zd110_1 : decode zxm110.2.1 1 = .ok (.iload_n 2, 1) := by decide +kernel
theorem zd110_2 : decode zxm110.2.1 2 = .ok (.invokestatic 130, 3) := by decide +kernel
theorem zd110_5 : decode zxm110.2.1 5 = .ok (.ifCond .eq 14, 3) := by decide +kernel
theorem zd110_8 : decode zxm110.2.1 8 = .ok (.aload_n 0, 1) := by decide +kernel
theorem zd110_9 : decode zxm110.2.1 9 = .ok (.getfield 10, 3) := by decide +kernel
theorem zd110_12 : decode zxm110.2.1 12 = .ok (.iload_n 3, 1) := by decide +kernel
theorem zd110_13 : decode zxm110.2.1 13 = .ok (.invokevirtual 153, 3) := by decide +kernel
theorem zd110_16 : decode zxm110.2.1 16 = .ok (.ifCond .ne 5, 3) := by decide +kernel
theorem zd110_19 : decode zxm110.2.1 19 = .ok (.iconst (-1), 1) := by decide +kernel
theorem zd110_20 : decode zxm110.2.1 20 = .ok (.ireturn, 1) := by decide +kernel
theorem zd110_21 : decode zxm110.2.1 21 = .ok (.aload_n 0, 1) := by decide +kernel
theorem zd110_22 : decode zxm110.2.1 22 = .ok (.aload_n 0, 1) := by decide +kernel
theorem zd110_23 : decode zxm110.2.1 23 = .ok (.getfield 81, 3) := by decide +kernel
theorem zd110_26 : decode zxm110.2.1 26 = .ok (.iload_n 1, 1) := by decide +kernel
theorem zd110_27 : decode zxm110.2.1 27 = .ok (.iload_n 2, 1) := by decide +kernel
theorem zd110_28 : decode zxm110.2.1 28 = .ok (.invokevirtual 221, 3) := by decide +kernel
theorem zd110_31 : decode zxm110.2.1 31 = .ok (.aload_n 0, 1) := by decide +kernel
theorem zd110_32 : decode zxm110.2.1 32 = .ok (.getfield 81, 3) := by decide +kernel
theorem zd110_35 : decode zxm110.2.1 35 = .ok (.getfield 218, 3) := by decide +kernel
theorem zd110_38 : decode zxm110.2.1 38 = .ok (.iload_n 3, 1) := by decide +kernel
theorem zd110_39 : decode zxm110.2.1 39 = .ok (.ishr, 1) := by decide +kernel
theorem zd110_40 : decode zxm110.2.1 40 = .ok (.iconst 1, 1) := by decide +kernel
theorem zd110_41 : decode zxm110.2.1 41 = .ok (.iand, 1) := by decide +kernel
theorem zd110_42 : decode zxm110.2.1 42 = .ok (.ifCond .ne 8, 3) := by decide +kernel
theorem zd110_45 : decode zxm110.2.1 45 = .ok (.bipush (-2), 2) := by decide +kernel
theorem zd110_47 : decode zxm110.2.1 47 = .ok (.goto 13, 3) := by decide +kernel
theorem zd110_50 : decode zxm110.2.1 50 = .ok (.aload_n 0, 1) := by decide +kernel
theorem zd110_51 : decode zxm110.2.1 51 = .ok (.getfield 81, 3) := by decide +kernel
theorem zd110_54 : decode zxm110.2.1 54 = .ok (.iload_n 3, 1) := by decide +kernel
theorem zd110_55 : decode zxm110.2.1 55 = .ok (.iconst (-1), 1) := by decide +kernel
theorem zd110_56 : decode zxm110.2.1 56 = .ok (.iconst (-1), 1) := by decide +kernel
theorem zd110_57 : decode zxm110.2.1 57 = .ok (.invokevirtual 249, 3) := by decide +kernel
theorem zd110_60 : decode zxm110.2.1 60 = .ok (.ireturn, 1) := by decide +kernel
theorem zt_X_figure {x1 : Int} {x2 : Int} {x3 : Int} {f0 : Int} {f4 : Int} {f5 : Int} {f6 : Int} {f7 : Int} {f8 : Int} {f9 : Int} {f10 : Int} {f11 : Int} {f12 : Int} {f13 : Int} {f14 : Int} {f15 : Int} {f16 : Int} {f17 : Int} {f18 : Int} {f19 : Int} {g0 : (Int → Int)} {g1 : (Int → Int)} {g2 : (Int → Int)} {g3 : (Int → Int)} {g4 : (Int → Int)} {g5 : (Int → Int)} {g6 : (Int → Int)} {g7 : (Int → Int)} {g8 : (Int → Int)} {g9 : (Int → Int)} {g10 : (Int → Int)} {g11 : (Int → Int)} {g12 : (Int → Int)} {o : Int × Int × Int × Int × Int × Int × Int × (Int → Int) × (Int → Int) × (Int → Int) × (Int → Int) × (Int → Int)} (h : zf_X_figure x1 x2 x3 f0 f4 f5 f6 f7 f8 f9 f10 f11 f12 f13 f14 f15 f16 f17 f18 f19 g0 g1 g2 g3 g4 g5 g6 g7 g8 g9 g10 g11 g12 = some o) : zv_Fn z_TB z_cl z_KX zy_X_figure zxm110 (6, 360) [.inr 0, .inl x1, .inl x2, .inl x3] [.inl f0, .inr 3, .inr 1000, .inr 1000, .inl f4, .inl f5, .inl f6, .inl f7, .inl f8, .inl f9, .inl f10, .inl f11, .inl f12, .inl f13, .inl f14, .inl f15, .inl f16, .inl f17, .inl f18, .inl f19] [g0, g1, g2, g3, g4, g5, g6, g7, g8, g9, g10, g11, g12] (some o.1) [.inl f0, .inr 3, .inr 1000, .inr 1000, .inl o.2.1, .inl o.2.2.1, .inl o.2.2.2.1, .inl f7, .inl f8, .inl o.2.2.2.2.1, .inl f10, .inl f11, .inl f12, .inl f13, .inl o.2.2.2.2.2.1, .inl f15, .inl o.2.2.2.2.2.2.1, .inl f17, .inl f18, .inl f19] [o.2.2.2.2.2.2.2.1, o.2.2.2.2.2.2.2.2.1, g2, g3, g4, g5, g6, g7, g8, o.2.2.2.2.2.2.2.2.2.1, g10, o.2.2.2.2.2.2.2.2.2.2.1, o.2.2.2.2.2.2.2.2.2.2.2] := zv_meth (K := (z_KF0, z_KC0, z_KL0, z_KT0, [], [], [], none)) (FT := z_FT) (MT := z_MT) (n := 4) zxp110 (z_ks0 _ (fun _ h => List.mem_cons_of_mem _ h) _ _ _ _ (fun j r h _ => by cases h)) (fun _ _ => zs_KX_p) zyw_X_figure (fun va F G h => by obtain ⟨rfl, _⟩ := h; rfl) rfl fun good va F G hB hret hvret hP => by
  obtain ⟨rfl, rfl, rfl⟩ := hP
  unfold zf_X_figure at h
  refine zv_ild hB zd110_0 rfl rfl ?_
  refine zv_ild hB zd110_1 rfl rfl ?_
  obtain ⟨r1, hr1, h⟩ := zi_bind h
  refine zv_cs hB (show zv_Fn _ _ _ zy_X_figure _ _ [.inl x1, .inl x2] [.inl f0, .inr 3, .inr 1000, .inr 1000, .inl f4, .inl f5, .inl f6, .inl f7, .inl f8, .inl f9, .inl f10, .inl f11, .inl f12, .inl f13, .inl f14, .inl f15, .inl f16, .inl f17, .inl f18, .inl f19] [g0, g1, g2, g3, g4, g5, g6, g7, g8, g9, g10, g11, g12] (some r1) [.inl f0, .inr 3, .inr 1000, .inr 1000, .inl f4, .inl f5, .inl f6, .inl f7, .inl f8, .inl f9, .inl f10, .inl f11, .inl f12, .inl f13, .inl f14, .inl f15, .inl f16, .inl f17, .inl f18, .inl f19] [g0, g1, g2, g3, g4, g5, g6, g7, g8, g9, g10, g11, g12] from zv_emb (F := [.inl f0, .inr 3, .inr 1000, .inr 1000, .inl f4, .inl f5, .inl f6, .inl f7, .inl f8, .inl f9, .inl f10, .inl f11, .inl f12, .inl f13, .inl f14, .inl f15, .inl f16, .inl f17, .inl f18, .inl f19]) (G := [g0, g1, g2, g3, g4, g5, g6, g7, g8, g9, g10, g11, g12]) zyw_X_isPlace zyw_X_figure zye_X_figure (by decide +kernel : zv_ek zy_X_isPlace zy_X_figure [] [] [] = true) (zt_X_isPlace hr1) trivial trivial) zd110_2 zxt16 rfl (by decide) (by decide) rfl ?_
  refine zv_zeq hB zd110_5 rfl (fun hc2 => ?_) (fun hc2 => ?_)
  · rw [if_pos hc2] at h
    refine zv_con hB zd110_19 rfl ?_
    have hw := Option.some.inj h
    subst hw
    exact hret _ _ _ _ _ zd110_20 (by trivial) ⟨rfl, rfl, rfl⟩
  · rw [if_neg hc2] at h
    refine zv_ald hB zd110_8 rfl rfl rfl ?_
    refine zv_getr hB zd110_9 rfl ?_
    refine zv_ild hB zd110_12 rfl rfl ?_
    obtain ⟨r3, hr3, h⟩ := zi_bind h
    refine zv_cv hB (show zv_Fn _ _ _ zy_X_figure _ _ [.inr 1, .inl x3] [.inl f0, .inr 3, .inr 1000, .inr 1000, .inl f4, .inl f5, .inl f6, .inl f7, .inl f8, .inl f9, .inl f10, .inl f11, .inl f12, .inl f13, .inl f14, .inl f15, .inl f16, .inl f17, .inl f18, .inl f19] [g0, g1, g2, g3, g4, g5, g6, g7, g8, g9, g10, g11, g12] (some r3) [.inl f0, .inr 3, .inr 1000, .inr 1000, .inl f4, .inl f5, .inl f6, .inl f7, .inl f8, .inl f9, .inl f10, .inl f11, .inl f12, .inl f13, .inl f14, .inl f15, .inl f16, .inl f17, .inl f18, .inl f19] [g0, g1, g2, g3, g4, g5, g6, g7, g8, g9, g10, g11, g12] from zv_emb (F := [.inl f0, .inr 3, .inr 1000, .inr 1000, .inl f4, .inl f5, .inl f6, .inl f7, .inl f8, .inl f9, .inl f10, .inl f11, .inl f12, .inl f13, .inl f14, .inl f15, .inl f16, .inl f17, .inl f18, .inl f19]) (G := [g0, g1, g2, g3, g4, g5, g6, g7, g8, g9, g10, g11, g12]) zyw_Sky_hasStar zyw_X_figure zye_X_figure (by decide +kernel : zv_ek zy_Sky_hasStar zy_X_figure [1] [0] [] = true) (zt_Sky_hasStar hr3) ⟨⟨_, rfl, fun _ => rfl⟩, trivial⟩ trivial) zd110_13 zxt18 rfl (by decide) (by decide) rfl ?_
    refine zv_zne hB zd110_16 rfl (fun hc4 => ?_) (fun hc4 => ?_)
    · rw [if_neg hc4] at h
      refine zv_ald hB zd110_21 rfl rfl rfl ?_
      refine zv_ald hB zd110_22 rfl rfl rfl ?_
      refine zv_getr hB zd110_23 rfl ?_
      refine zv_ild hB zd110_26 rfl rfl ?_
      refine zv_ild hB zd110_27 rfl rfl ?_
      obtain ⟨r5, hr5, h⟩ := zi_bind h
      refine zv_cv hB (show zv_Fn _ _ _ zy_X_figure _ _ [.inr 0, .inr 2, .inl x1, .inl x2] [.inl f0, .inr 3, .inr 1000, .inr 1000, .inl f4, .inl f5, .inl f6, .inl f7, .inl f8, .inl f9, .inl f10, .inl f11, .inl f12, .inl f13, .inl f14, .inl f15, .inl f16, .inl f17, .inl f18, .inl f19] [g0, g1, g2, g3, g4, g5, g6, g7, g8, g9, g10, g11, g12] none [.inl f0, .inr 3, .inr 1, .inr 3, .inl r5.1, .inl r5.2.1, .inl r5.2.2.1, .inl f7, .inl f8, .inl r5.2.2.2.1, .inl f10, .inl f11, .inl f12, .inl f13, .inl r5.2.2.2.2.1, .inl f15, .inl r5.2.2.2.2.2.1, .inl f17, .inl f18, .inl f19] [r5.2.2.2.2.2.2.1, r5.2.2.2.2.2.2.2.1, g2, g3, g4, g5, g6, g7, g8, r5.2.2.2.2.2.2.2.2.1, g10, r5.2.2.2.2.2.2.2.2.2.1, r5.2.2.2.2.2.2.2.2.2.2] from zv_emb (F := [.inl f0, .inr 3, .inr 1000, .inr 1000, .inl f4, .inl f5, .inl f6, .inl f7, .inl f8, .inl f9, .inl f10, .inl f11, .inl f12, .inl f13, .inl f14, .inl f15, .inl f16, .inl f17, .inl f18, .inl f19]) (G := [g0, g1, g2, g3, g4, g5, g6, g7, g8, g9, g10, g11, g12]) zyw_X_lookAndDraw zyw_X_figure zye_X_figure (by decide +kernel : zv_ek zy_X_lookAndDraw zy_X_figure [0, 2, 1, 3, 4, 5, 6, 7, 8, 9, 10, 11, 12, 13, 14, 15, 16] [1, 2, 3, 4, 5, 6, 7, 8, 9, 0, 10, 11, 12, 13, 14, 15, 16, 17, 18, 19] [0, 1, 2, 3, 4, 5, 6, 7, 8, 9, 10, 11, 12] = true) (zt_X_lookAndDraw hr5) ⟨⟨_, rfl, fun _ => rfl⟩, ⟨_, rfl, fun h => (Nat.lt_irrefl 1000 h).elim⟩, ⟨_, rfl, fun h => (Nat.lt_irrefl 1000 h).elim⟩, ⟨_, rfl, fun _ => rfl⟩, ⟨_, rfl, fun _ => rfl⟩, ⟨_, rfl, fun _ => rfl⟩, ⟨_, rfl, fun _ => rfl⟩, ⟨_, rfl, fun _ => rfl⟩, ⟨_, rfl, fun _ => rfl⟩, ⟨_, rfl, fun _ => rfl⟩, ⟨_, rfl, fun _ => rfl⟩, ⟨_, rfl, fun _ => rfl⟩, ⟨_, rfl, fun _ => rfl⟩, ⟨_, rfl, fun _ => rfl⟩, ⟨_, rfl, fun _ => rfl⟩, ⟨_, rfl, fun _ => rfl⟩, ⟨_, rfl, fun _ => rfl⟩, ⟨_, rfl, fun _ => rfl⟩, ⟨_, rfl, fun _ => rfl⟩, ⟨_, rfl, fun _ => rfl⟩, trivial⟩ ⟨rfl, rfl, rfl, rfl, rfl, rfl, rfl, rfl, rfl, rfl, rfl, rfl, rfl, trivial⟩) zd110_28 zxt96 rfl (by decide) (by decide) rfl ?_
      refine zv_ald hB zd110_31 rfl rfl rfl ?_
      refine zv_getr hB zd110_32 rfl ?_
      refine zv_getf hB zd110_35 rfl rfl (fun _ _ => ?_)
      refine zv_ild hB zd110_38 rfl rfl ?_
      refine zv_shrw hB zd110_39 ?_
      refine zv_con hB zd110_40 rfl ?_
      refine zv_andw hB zd110_41 ?_
      refine zv_zne hB zd110_42 rfl (fun hc6 => ?_) (fun hc6 => ?_)
      · rw [if_neg hc6] at h
        refine zv_ald hB zd110_50 rfl rfl rfl ?_
        refine zv_getr hB zd110_51 rfl ?_
        refine zv_ild hB zd110_54 rfl rfl ?_
        refine zv_con hB zd110_55 rfl ?_
        refine zv_con hB zd110_56 rfl ?_
        obtain ⟨r7, hr7, h⟩ := zi_bind h
        refine zv_cv hB (show zv_Fn _ _ _ zy_X_figure _ _ [.inr 2, .inl x3, .inl (-1), .inl (-1)] [.inl f0, .inr 3, .inr 1, .inr 3, .inl r5.1, .inl r5.2.1, .inl r5.2.2.1, .inl f7, .inl f8, .inl r5.2.2.2.1, .inl f10, .inl f11, .inl f12, .inl f13, .inl r5.2.2.2.2.1, .inl f15, .inl r5.2.2.2.2.2.1, .inl f17, .inl f18, .inl f19] [r5.2.2.2.2.2.2.1, r5.2.2.2.2.2.2.2.1, g2, g3, g4, g5, g6, g7, g8, r5.2.2.2.2.2.2.2.2.1, g10, r5.2.2.2.2.2.2.2.2.2.1, r5.2.2.2.2.2.2.2.2.2.2] (some r7) [.inl f0, .inr 3, .inr 1, .inr 3, .inl r5.1, .inl r5.2.1, .inl r5.2.2.1, .inl f7, .inl f8, .inl r5.2.2.2.1, .inl f10, .inl f11, .inl f12, .inl f13, .inl r5.2.2.2.2.1, .inl f15, .inl r5.2.2.2.2.2.1, .inl f17, .inl f18, .inl f19] [r5.2.2.2.2.2.2.1, r5.2.2.2.2.2.2.2.1, g2, g3, g4, g5, g6, g7, g8, r5.2.2.2.2.2.2.2.2.1, g10, r5.2.2.2.2.2.2.2.2.2.1, r5.2.2.2.2.2.2.2.2.2.2] from zv_emb (F := [.inl f0, .inr 3, .inr 1, .inr 3, .inl r5.1, .inl r5.2.1, .inl r5.2.2.1, .inl f7, .inl f8, .inl r5.2.2.2.1, .inl f10, .inl f11, .inl f12, .inl f13, .inl r5.2.2.2.2.1, .inl f15, .inl r5.2.2.2.2.2.1, .inl f17, .inl f18, .inl f19]) (G := [r5.2.2.2.2.2.2.1, r5.2.2.2.2.2.2.2.1, g2, g3, g4, g5, g6, g7, g8, r5.2.2.2.2.2.2.2.2.1, g10, r5.2.2.2.2.2.2.2.2.2.1, r5.2.2.2.2.2.2.2.2.2.2]) zyw_View_reach zyw_X_figure zye_X_figure (by decide +kernel : zv_ek zy_View_reach zy_X_figure [2, 15] [] [11] = true) (zt_View_reach hr7) trivial ⟨rfl, trivial⟩) zd110_57 zxt104 rfl (by decide) (by decide) rfl ?_
        have hw := Option.some.inj h
        refine zv_wk hB (L' := [.inr 0, .inl x1, .inl x2, .inl x3]) (F' := [.inl f0, .inr 3, .inr 1000, .inr 1000, .inl r5.1, .inl r5.2.1, .inl r5.2.2.1, .inl f7, .inl f8, .inl r5.2.2.2.1, .inl f10, .inl f11, .inl f12, .inl f13, .inl r5.2.2.2.2.1, .inl f15, .inl r5.2.2.2.2.2.1, .inl f17, .inl f18, .inl f19]) ⟨fun _ => rfl, fun _ => rfl, fun _ => rfl, fun _ => rfl, trivial⟩ ⟨fun _ => rfl, fun _ => rfl, fun h => (Nat.lt_irrefl 1000 h).elim, fun h => (Nat.lt_irrefl 1000 h).elim, fun _ => rfl, fun _ => rfl, fun _ => rfl, fun _ => rfl, fun _ => rfl, fun _ => rfl, fun _ => rfl, fun _ => rfl, fun _ => rfl, fun _ => rfl, fun _ => rfl, fun _ => rfl, fun _ => rfl, fun _ => rfl, fun _ => rfl, fun _ => rfl, trivial⟩ ?_
        subst hw
        exact hret _ _ _ _ _ zd110_60 (by trivial) ⟨rfl, rfl, rfl⟩
      · rw [if_pos hc6] at h
        refine zv_con hB zd110_45 rfl ?_
        refine zv_goto hB zd110_47 rfl ?_
        have hw := Option.some.inj h
        refine zv_wk hB (L' := [.inr 0, .inl x1, .inl x2, .inl x3]) (F' := [.inl f0, .inr 3, .inr 1000, .inr 1000, .inl r5.1, .inl r5.2.1, .inl r5.2.2.1, .inl f7, .inl f8, .inl r5.2.2.2.1, .inl f10, .inl f11, .inl f12, .inl f13, .inl r5.2.2.2.2.1, .inl f15, .inl r5.2.2.2.2.2.1, .inl f17, .inl f18, .inl f19]) ⟨fun _ => rfl, fun _ => rfl, fun _ => rfl, fun _ => rfl, trivial⟩ ⟨fun _ => rfl, fun _ => rfl, fun h => (Nat.lt_irrefl 1000 h).elim, fun h => (Nat.lt_irrefl 1000 h).elim, fun _ => rfl, fun _ => rfl, fun _ => rfl, fun _ => rfl, fun _ => rfl, fun _ => rfl, fun _ => rfl, fun _ => rfl, fun _ => rfl, fun _ => rfl, fun _ => rfl, fun _ => rfl, fun _ => rfl, fun _ => rfl, fun _ => rfl, fun _ => rfl, trivial⟩ ?_
        subst hw
        exact hret _ _ _ _ _ zd110_60 (by trivial) ⟨rfl, rfl, rfl⟩
    · rw [if_pos hc4] at h
      refine zv_con hB zd110_19 rfl ?_
      have hw := Option.some.inj h
      subst hw
      exact hret _ _ _ _ _ zd110_20 (by trivial) ⟨rfl, rfl, rfl⟩
/-! Matcher_withLegs (II)I -/
-- names: 0 Matcher('arg', 0), 1 (0, 24)(0, 8, 4)
-- fields: f0 = 0.joined_; arrays: g0 = 1; out: [('ret', None)]
abbrev zy_Matcher_withLegs : zNL := (2, [(0, 8)], [(0, 8, 4, 0)], [], [(1, 0, 24, 0)])
theorem zyw_Matcher_withLegs : zv_wf zy_Matcher_withLegs = true := by decide +kernel
theorem zye_Matcher_withLegs : zv_ek2 zy_Matcher_withLegs = true := by decide +kernel
def zf_Matcher_withLegs_l0_b (x1 : Int) (x2 : Int) (g0 : (Int → Int)) (rec : Int → Int → Option (Int)) (x3 : Int) (x4 : Int) : Option (Int) := if x4 < 24 then (if (zi_and (zi_shr x1 x4) 1) = 0 then (rec x3 (zi_w (x4 + 1))) else (cond (zi_ix x4 24) ((zf_Integer_bitCount (zi_and (g0 x4) x1)).bind fun r4 => (if r4 < x2 then (rec x3 (zi_w (x4 + 1))) else (rec (zi_or x3 (zi_shl 1 x4)) (zi_w (x4 + 1))))) none)) else (some x3)
def zf_Matcher_withLegs_l0 (x1 : Int) (x2 : Int) (g0 : (Int → Int)) : Nat → Int → Int → Option (Int)
  | 0, _, _ => none
  | n + 1, x3, x4 => zf_Matcher_withLegs_l0_b x1 x2 g0 (zf_Matcher_withLegs_l0 x1 x2 g0 n) x3 x4
def zf_Matcher_withLegs (x1 : Int) (x2 : Int) (g0 : (Int → Int)) : Option (Int) := (zf_Matcher_withLegs_l0 x1 x2 g0 zi_fu 0 0).bind fun q6 => (some q6)
theorem zd114_0 : decode zxm114.2.1 0 = .ok (.iconst 0, 1) := by decide +kernel
theorem zd114_1 : decode zxm114.2.1 1 = .ok (.istore_n 3, 1) := by decide +kernel
theorem zd114_2 : decode zxm114.2.1 2 = .ok (.iconst 0, 1) := by decide +kernel
theorem zd114_3 : decode zxm114.2.1 3 = .ok (.istore 4, 2) := by decide +kernel
theorem zd114_5 : decode zxm114.2.1 5 = .ok (.iload 4, 2) := by decide +kernel
theorem zd114_7 : decode zxm114.2.1 7 = .ok (.bipush 24, 2) := by decide +kernel
theorem zd114_9 : decode zxm114.2.1 9 = .ok (.if_icmp .ge 41, 3) := by decide +kernel
theorem zd114_12 : decode zxm114.2.1 12 = .ok (.iload_n 1, 1) := by decide +kernel
theorem zd114_13 : decode zxm114.2.1 13 = .ok (.iload 4, 2) := by decide +kernel
theorem zd114_15 : decode zxm114.2.1 15 = .ok (.ishr, 1) := by decide +kernel
theorem zd114_16 : decode zxm114.2.1 16 = .ok (.iconst 1, 1) := by decide +kernel
theorem zd114_17 : decode zxm114.2.1 17 = .ok (.iand, 1) := by decide +kernel
theorem zd114_18 : decode zxm114.2.1 18 = .ok (.ifCond .eq 26, 3) := by decide +kernel
theorem zd114_21 : decode zxm114.2.1 21 = .ok (.aload_n 0, 1) := by decide +kernel
theorem zd114_22 : decode zxm114.2.1 22 = .ok (.getfield 34, 3) := by decide +kernel
theorem zd114_25 : decode zxm114.2.1 25 = .ok (.iload 4, 2) := by decide +kernel
theorem zd114_27 : decode zxm114.2.1 27 = .ok (.iaload, 1) := by decide +kernel
theorem zd114_28 : decode zxm114.2.1 28 = .ok (.iload_n 1, 1) := by decide +kernel
theorem zd114_29 : decode zxm114.2.1 29 = .ok (.iand, 1) := by decide +kernel
theorem zd114_30 : decode zxm114.2.1 30 = .ok (.invokestatic 55, 3) := by decide +kernel
theorem zd114_33 : decode zxm114.2.1 33 = .ok (.iload_n 2, 1) := by decide +kernel
theorem zd114_34 : decode zxm114.2.1 34 = .ok (.if_icmp .lt 10, 3) := by decide +kernel
theorem zd114_37 : decode zxm114.2.1 37 = .ok (.iload_n 3, 1) := by decide +kernel
theorem zd114_38 : decode zxm114.2.1 38 = .ok (.iconst 1, 1) := by decide +kernel
theorem zd114_39 : decode zxm114.2.1 39 = .ok (.iload 4, 2) := by decide +kernel
theorem zd114_41 : decode zxm114.2.1 41 = .ok (.ishl, 1) := by decide +kernel
theorem zd114_42 : decode zxm114.2.1 42 = .ok (.ior, 1) := by decide +kernel
theorem zd114_43 : decode zxm114.2.1 43 = .ok (.istore_n 3, 1) := by decide +kernel
theorem zd114_44 : decode zxm114.2.1 44 = .ok (.iinc 4 1, 3) := by decide +kernel
theorem zd114_47 : decode zxm114.2.1 47 = .ok (.goto (-42), 3) := by decide +kernel
theorem zd114_50 : decode zxm114.2.1 50 = .ok (.iload_n 3, 1) := by decide +kernel
theorem zd114_51 : decode zxm114.2.1 51 = .ok (.ireturn, 1) := by decide +kernel
theorem zt_Matcher_withLegs {x1 : Int} {x2 : Int} {g0 : (Int → Int)} {o : Int} (h : zf_Matcher_withLegs x1 x2 g0 = some o) : zv_Fn z_TB z_cl z_KX zy_Matcher_withLegs zxm114 (1, 60) [.inr 0, .inl x1, .inl x2] [.inr 1] [g0] (some o) [.inr 1] [g0] := zv_meth (K := (z_KF4, z_KC4, z_KL4, z_KT4, [], [], [], none)) (FT := z_FT) (MT := z_MT) (n := 3) zxp114 (z_ks4 _ (fun _ h => List.mem_cons_of_mem _ h) _ _ _ _ (fun j r h _ => by cases h)) (fun _ _ => zs_KX_p) zyw_Matcher_withLegs (fun va F G h => by obtain ⟨rfl, _⟩ := h; rfl) rfl fun good va F G hB hret hvret hP => by
  obtain ⟨rfl, rfl, rfl⟩ := hP
  have l0 : ∀ (n : Nat) (x1 : Int) (x2 : Int) (x3 : Int) (x4 : Int) (q : Int), zf_Matcher_withLegs_l0 x1 x2 g0 n x3 x4 = some q → (good 50 [.inr 1000, .inr 1000, .inr 1000, .inl q, .inr 1000] [] [.inr 1] [g0]) → good 5 [.inr 0, .inl x1, .inl x2, .inl x3, .inl x4] [] [.inr 1] [g0] := by
    intro n
    induction n with
    | zero => intro x1 x2 x3 x4 q h; exact absurd (show none = some q from h) (fun h => by cases h)
    | succ n ih =>
      intro x1 x2 x3 x4 q h hK
      replace h : zf_Matcher_withLegs_l0_b x1 x2 g0 (zf_Matcher_withLegs_l0 x1 x2 g0 n) x3 x4 = some q := h
      unfold zf_Matcher_withLegs_l0_b at h
      refine zv_ild hB zd114_5 rfl rfl ?_
      refine zv_con hB zd114_7 rfl ?_
      refine zv_cge hB zd114_9 rfl (fun hc1 => ?_) (fun hc1 => ?_)
      · rw [if_neg (Int.not_lt.mpr hc1)] at h
        have hq := Option.some.inj h
        subst hq
        refine zv_wk hB (L' := [.inr 1000, .inr 1000, .inr 1000, .inl x3, .inr 1000]) (F' := [.inr 1]) ⟨fun h => (Nat.lt_irrefl 1000 h).elim, fun h => (Nat.lt_irrefl 1000 h).elim, fun h => (Nat.lt_irrefl 1000 h).elim, fun _ => rfl, fun h => (Nat.lt_irrefl 1000 h).elim, trivial⟩ ⟨fun _ => rfl, trivial⟩ ?_
        exact hK
      · rw [if_pos hc1] at h
        refine zv_ild hB zd114_12 rfl rfl ?_
        refine zv_ild hB zd114_13 rfl rfl ?_
        refine zv_shrw hB zd114_15 ?_
        refine zv_con hB zd114_16 rfl ?_
        refine zv_andw hB zd114_17 ?_
        refine zv_zeq hB zd114_18 rfl (fun hc2 => ?_) (fun hc2 => ?_)
        · rw [if_pos hc2] at h
          refine zv_iincw hB zd114_44 rfl rfl ?_
          refine zv_goto hB zd114_47 rfl ?_
          exact ih _ _ _ _ q h hK
        · rw [if_neg hc2] at h
          refine zv_ald hB zd114_21 rfl rfl rfl ?_
          refine zv_getq hB zd114_22 rfl rfl rfl ?_
          refine zv_ild hB zd114_25 rfl rfl ?_
          obtain ⟨c3, h⟩ := zi_if h
          refine zv_iald hB zd114_27 rfl rfl (zi_ix_ok c3).1 (zi_ix_ok c3).2 (fun _ _ => ?_)
          refine zv_ild hB zd114_28 rfl rfl ?_
          refine zv_andw hB zd114_29 ?_
          obtain ⟨r4, hr4, h⟩ := zi_bind h
          refine zv_cs hB (show zv_Fn _ _ _ zy_Matcher_withLegs _ _ [.inl (zi_and (g0 x4) x1)] [.inr 1] [g0] (some r4) [.inr 1] [g0] from zv_emb (F := [.inr 1]) (G := [g0]) zyw_Integer_bitCount zyw_Matcher_withLegs zye_Matcher_withLegs (by decide +kernel : zv_ek zy_Integer_bitCount zy_Matcher_withLegs [] [] [] = true) (zt_Integer_bitCount hr4) trivial trivial) zd114_30 zxt102 rfl (by decide) (by decide) rfl ?_
          refine zv_ild hB zd114_33 rfl rfl ?_
          refine zv_clt hB zd114_34 rfl (fun hc5 => ?_) (fun hc5 => ?_)
          · rw [if_pos hc5] at h
            refine zv_iincw hB zd114_44 rfl rfl ?_
            refine zv_goto hB zd114_47 rfl ?_
            exact ih _ _ _ _ q h hK
          · rw [if_neg (Int.not_lt.mpr hc5)] at h
            refine zv_ild hB zd114_37 rfl rfl ?_
            refine zv_con hB zd114_38 rfl ?_
            refine zv_ild hB zd114_39 rfl rfl ?_
            refine zv_shlw hB zd114_41 ?_
            refine zv_orw hB zd114_42 ?_
            refine zv_ist hB zd114_43 rfl rfl rfl ?_
            refine zv_iincw hB zd114_44 rfl rfl ?_
            refine zv_goto hB zd114_47 rfl ?_
            exact ih _ _ _ _ q h hK
  unfold zf_Matcher_withLegs at h
  refine zv_con hB zd114_0 rfl ?_
  refine zv_ist hB zd114_1 rfl rfl rfl ?_
  refine zv_con hB zd114_2 rfl ?_
  refine zv_ist hB zd114_3 rfl rfl rfl ?_
  obtain ⟨q6, hq6, h⟩ := zi_bind h
  refine l0 _ _ _ _ _ q6 hq6 ?_
  show good 50 [.inr 1000, .inr 1000, .inr 1000, .inl q6, .inr 1000] [] [.inr 1] [g0]
  refine zv_ild hB zd114_50 rfl rfl ?_
  have hw := Option.some.inj h
  subst hw
  exact hret _ _ _ _ _ zd114_51 (by trivial) ⟨rfl, rfl, rfl⟩
