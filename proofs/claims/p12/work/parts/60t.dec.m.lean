/-! 60t.dec, 60u.dec -/
section
/-! Methods as functions, and that they do what these do. -/
/-! X_matched (III)I -/
-- names: 0 StarTales('arg', 0), 1 Tale(0, 0, 10), 2 View(0, 0, 12), 3 Sky(0, 0, 0), 4 Law(0, 0, 7), 5 (0, 24)(2, 7, 8), 6 (0, 13)(4, 4, 12), 7 (0, 24)(3, 1, 1), 8 (0, 24)(3, 1, 2), 9 (0, 24)(3, 1, 3), 10 (0, 14)(4, 4, 3), 11 (0, 14)(4, 4, 5), 12 (0, 14)(4, 4, 6), 13 (0, 200)(4, 4, 0), 14 (0, 40)(4, 4, 13), 15 (0, 200)(4, 4, 1), 16 (0, 24)(2, 7, 5), 17 (0, 24)(2, 7, 9), 18 Matcher(0, 0, 14), 19 (0, 72)(18, 8, 0), 20 (0, 8)(1, 6, 2), 21 (0, 24)(18, 8, 1), 22 (0, 8)(18, 8, 2)
-- fields: f0 = 0.telling_, f1 = 1.lines_, f2 = 0.ruling_, f3 = 2.sky_, f4 = 2.law_, f5 = 2.starsAsked_, f6 = 2.x_, f7 = 2.y_, f8 = 3.hour_, f9 = 3.night_, f10 = 2.shown_, f11 = 3.told_, f12 = 3.sightColumns_, f13 = 3.sightRows_, f14 = 3.clouds_, f15 = 4.tellsSeen_, f16 = 2.starsHold_, f17 = 4.clauses_, f18 = 4.answer_, f19 = 4.seenByPlace_, f20 = 4.tellsLines_, f21 = 4.linesByPlace_, f22 = 1.names_, f23 = 18.tale_, f24 = 18.joined_, f25 = 18.deadEnds_; arrays: g0 = 5, g1 = 6, g2 = 7, g3 = 8, g4 = 9, g5 = 10, g6 = 11, g7 = 12, g8 = 13, g9 = 14, g10 = 15, g11 = 16, g12 = 17, g13 = 19, g14 = 20, g15 = 21, g16 = 22; out: [('ret', None), ('f', 5), ('f', 6), ('f', 7), ('f', 10), ('f', 16), ('f', 18), ('f', 25), ('g', 0), ('g', 1), ('g', 9), ('g', 11), ('g', 12), ('g', 13), ('g', 15), ('g', 16)]
abbrev zy_X_matched : zNL := (23, [(0, 0), (1, 6), (2, 7), (3, 1), (4, 4), (18, 8)], [(0, 0, 10, 0), (1, 6, 0, 1), (0, 0, 7, 2), (2, 7, 0, 3), (2, 7, 1, 4), (2, 7, 6, 5), (2, 7, 2, 6), (2, 7, 3, 7), (3, 1, 6, 8), (3, 1, 7, 9), (2, 7, 4, 10), (3, 1, 0, 11), (3, 1, 9, 12), (3, 1, 10, 13), (3, 1, 8, 14), (4, 4, 8, 15), (2, 7, 7, 16), (4, 4, 7, 17), (4, 4, 14, 18), (4, 4, 10, 19), (4, 4, 9, 20), (4, 4, 11, 21), (1, 6, 1, 22), (18, 8, 3, 23), (18, 8, 4, 24), (18, 8, 6, 25)], [(0, 0, 12, 2), (0, 0, 0, 3), (2, 7, 8, 5), (4, 4, 12, 6), (3, 1, 1, 7), (3, 1, 2, 8), (3, 1, 3, 9), (4, 4, 3, 10), (4, 4, 5, 11), (4, 4, 6, 12), (4, 4, 0, 13), (4, 4, 13, 14), (4, 4, 1, 15), (2, 7, 5, 16), (2, 7, 9, 17), (0, 0, 14, 18), (18, 8, 0, 19), (1, 6, 2, 20), (18, 8, 1, 21), (18, 8, 2, 22)], [(5, 0, 24, 0), (6, 0, 13, 1), (7, 0, 24, 2), (8, 0, 24, 3), (9, 0, 24, 4), (10, 0, 14, 5), (11, 0, 14, 6), (12, 0, 14, 7), (13, 0, 200, 8), (14, 0, 40, 9), (15, 0, 200, 10), (16, 0, 24, 11), (17, 0, 24, 12), (19, 0, 72, 13), (20, 0, 8, 14), (21, 0, 24, 15), (22, 0, 8, 16)])
theorem zyw_X_matched : zv_wf zy_X_matched = true := by decide +kernel
theorem zye_X_matched : zv_ek2 zy_X_matched = true := by decide +kernel
def zf_X_matched (x1 : Int) (x2 : Int) (x3 : Int) (f1 : Int) (f5 : Int) (f6 : Int) (f7 : Int) (f8 : Int) (f9 : Int) (f10 : Int) (f11 : Int) (f12 : Int) (f13 : Int) (f14 : Int) (f15 : Int) (f16 : Int) (f17 : Int) (f18 : Int) (f19 : Int) (f20 : Int) (f21 : Int) (f22 : Int) (f25 : Int) (g0 : (Int → Int)) (g1 : (Int → Int)) (g2 : (Int → Int)) (g3 : (Int → Int)) (g4 : (Int → Int)) (g5 : (Int → Int)) (g6 : (Int → Int)) (g7 : (Int → Int)) (g8 : (Int → Int)) (g9 : (Int → Int)) (g10 : (Int → Int)) (g11 : (Int → Int)) (g12 : (Int → Int)) (g13 : (Int → Int)) (g14 : (Int → Int)) (g15 : (Int → Int)) (g16 : (Int → Int)) : Option (Int × Int × Int × Int × Int × Int × Int × Int × (Int → Int) × (Int → Int) × (Int → Int) × (Int → Int) × (Int → Int) × (Int → Int) × (Int → Int) × (Int → Int)) := (zf_X_isPlace x1 x2).bind fun r1 => (if r1 = 0 then (some ((-3), f5, f6, f7, f10, f16, f18, f25, g0, g1, g9, g11, g12, g13, g15, g16)) else ((zf_X_isWithin x3 (-1) 7).bind fun r3 => (if r3 = 0 then (some ((-3), f5, f6, f7, f10, f16, f18, f25, g0, g1, g9, g11, g12, g13, g15, g16)) else (if f1 = 0 then (some ((-2), f5, f6, f7, f10, f16, f18, f25, g0, g1, g9, g11, g12, g13, g15, g16)) else ((zf_X_lookAndDraw x1 x2 f5 f6 f7 f8 f9 f10 f11 f12 f13 f14 f15 f16 f17 f18 f19 f20 f21 g0 g1 g2 g3 g4 g5 g6 g7 g8 g9 g10 g11 g12).bind fun r6 => (if x3 = (-1) then ((zf_Matcher_countWays_24 r6.2.2.2.1 10000 f25 f22 r6.2.2.2.2.2.2.2.2.2.1 g13 g14 g15 g16).bind fun r12 => (some (r12.1, r6.1, r6.2.1, r6.2.2.1, r6.2.2.2.1, r6.2.2.2.2.1, r6.2.2.2.2.2.1, r12.2.1, r6.2.2.2.2.2.2.1, r6.2.2.2.2.2.2.2.1, r6.2.2.2.2.2.2.2.2.1, r6.2.2.2.2.2.2.2.2.2.1, r6.2.2.2.2.2.2.2.2.2.2, r12.2.2.1, r12.2.2.2.1, r12.2.2.2.2))) else (if (zi_and (zi_shr f22 x3) 1) = 0 then (some ((-2), r6.1, r6.2.1, r6.2.2.1, r6.2.2.2.1, r6.2.2.2.2.1, r6.2.2.2.2.2.1, f25, r6.2.2.2.2.2.2.1, r6.2.2.2.2.2.2.2.1, r6.2.2.2.2.2.2.2.2.1, r6.2.2.2.2.2.2.2.2.2.1, r6.2.2.2.2.2.2.2.2.2.2, g13, g15, g16)) else ((zf_Matcher_findFirst_24 r6.2.2.2.1 f25 f22 r6.2.2.2.2.2.2.2.2.2.1 g13 g14 g15 g16).bind fun r9 => (if r9.1 = 0 then (some ((-2), r6.1, r6.2.1, r6.2.2.1, r6.2.2.2.1, r6.2.2.2.2.1, r6.2.2.2.2.2.1, r9.2.1, r6.2.2.2.2.2.2.1, r6.2.2.2.2.2.2.2.1, r6.2.2.2.2.2.2.2.2.1, r6.2.2.2.2.2.2.2.2.2.1, r6.2.2.2.2.2.2.2.2.2.2, r9.2.2.1, r9.2.2.2.1, r9.2.2.2.2)) else (cond (zi_ix x3 8) (some ((r9.2.2.2.2 x3), r6.1, r6.2.1, r6.2.2.1, r6.2.2.2.1, r6.2.2.2.2.1, r6.2.2.2.2.2.1, r9.2.1, r6.2.2.2.2.2.2.1, r6.2.2.2.2.2.2.2.1, r6.2.2.2.2.2.2.2.2.1, r6.2.2.2.2.2.2.2.2.2.1, r6.2.2.2.2.2.2.2.2.2.2, r9.2.2.1, r9.2.2.2.1, r9.2.2.2.2)) none))))))))))
theorem zd111_0 : decode zxm111.2.1 0 = .ok (.iload_n 1, 1) := by decide +kernel
theorem zd111_1 : decode zxm111.2.1 1 = .ok (.iload_n 2, 1) := by decide +kernel
theorem zd111_2 : decode zxm111.2.1 2 = .ok (.invokestatic 130, 3) := by decide +kernel
theorem zd111_5 : decode zxm111.2.1 5 = .ok (.ifCond .eq 13, 3) := by decide +kernel
theorem zd111_8 : decode zxm111.2.1 8 = .ok (.iload_n 3, 1) := by decide +kernel
theorem zd111_9 : decode zxm111.2.1 9 = .ok (.iconst (-1), 1) := by decide +kernel
theorem zd111_10 : decode zxm111.2.1 10 = .ok (.bipush 7, 2) := by decide +kernel
theorem zd111_12 : decode zxm111.2.1 12 = .ok (.invokestatic 126, 3) := by decide +kernel
theorem zd111_15 : decode zxm111.2.1 15 = .ok (.ifCond .ne 6, 3) := by decide +kernel
theorem zd111_18 : decode zxm111.2.1 18 = .ok (.bipush (-3), 2) := by decide +kernel
theorem zd111_20 : decode zxm111.2.1 20 = .ok (.ireturn, 1) := by decide +kernel
theorem zd111_21 : decode zxm111.2.1 21 = .ok (.aload_n 0, 1) := by decide +kernel
theorem zd111_22 : decode zxm111.2.1 22 = .ok (.getfield 69, 3) := by decide +kernel
theorem zd111_25 : decode zxm111.2.1 25 = .ok (.getfield 253, 3) := by decide +kernel
theorem zd111_28 : decode zxm111.2.1 28 = .ok (.ifCond .ne 6, 3) := by decide +kernel
theorem zd111_31 : decode zxm111.2.1 31 = .ok (.bipush (-2), 2) := by decide +kernel
theorem zd111_33 : decode zxm111.2.1 33 = .ok (.ireturn, 1) := by decide +kernel
theorem zd111_34 : decode zxm111.2.1 34 = .ok (.aload_n 0, 1) := by decide +kernel
theorem zd111_35 : decode zxm111.2.1 35 = .ok (.aload_n 0, 1) := by decide +kernel
theorem zd111_36 : decode zxm111.2.1 36 = .ok (.getfield 81, 3) := by decide +kernel
theorem zd111_39 : decode zxm111.2.1 39 = .ok (.iload_n 1, 1) := by decide +kernel
theorem zd111_40 : decode zxm111.2.1 40 = .ok (.iload_n 2, 1) := by decide +kernel
theorem zd111_41 : decode zxm111.2.1 41 = .ok (.invokevirtual 221, 3) := by decide +kernel
theorem zd111_44 : decode zxm111.2.1 44 = .ok (.iload_n 3, 1) := by decide +kernel
theorem zd111_45 : decode zxm111.2.1 45 = .ok (.iconst (-1), 1) := by decide +kernel
theorem zd111_46 : decode zxm111.2.1 46 = .ok (.if_icmp .ne 32, 3) := by decide +kernel
theorem zd111_49 : decode zxm111.2.1 49 = .ok (.aload_n 0, 1) := by decide +kernel
theorem zd111_50 : decode zxm111.2.1 50 = .ok (.getfield 96, 3) := by decide +kernel
theorem zd111_53 : decode zxm111.2.1 53 = .ok (.aload_n 0, 1) := by decide +kernel
theorem zd111_54 : decode zxm111.2.1 54 = .ok (.getfield 69, 3) := by decide +kernel
theorem zd111_57 : decode zxm111.2.1 57 = .ok (.aload_n 0, 1) := by decide +kernel
theorem zd111_58 : decode zxm111.2.1 58 = .ok (.getfield 81, 3) := by decide +kernel
theorem zd111_61 : decode zxm111.2.1 61 = .ok (.getfield 218, 3) := by decide +kernel
theorem zd111_64 : decode zxm111.2.1 64 = .ok (.aload_n 0, 1) := by decide +kernel
theorem zd111_65 : decode zxm111.2.1 65 = .ok (.getfield 81, 3) := by decide +kernel
theorem zd111_68 : decode zxm111.2.1 68 = .ok (.getfield 90, 3) := by decide +kernel
theorem zd111_71 : decode zxm111.2.1 71 = .ok (.sipush 10000, 3) := by decide +kernel
theorem zd111_74 : decode zxm111.2.1 74 = .ok (.invokevirtual 256, 3) := by decide +kernel
theorem zd111_77 : decode zxm111.2.1 77 = .ok (.ireturn, 1) := by decide +kernel
theorem zd111_78 : decode zxm111.2.1 78 = .ok (.aload_n 0, 1) := by decide +kernel
theorem zd111_79 : decode zxm111.2.1 79 = .ok (.getfield 69, 3) := by decide +kernel
theorem zd111_82 : decode zxm111.2.1 82 = .ok (.getfield 260, 3) := by decide +kernel
theorem zd111_85 : decode zxm111.2.1 85 = .ok (.iload_n 3, 1) := by decide +kernel
theorem zd111_86 : decode zxm111.2.1 86 = .ok (.ishr, 1) := by decide +kernel
theorem zd111_87 : decode zxm111.2.1 87 = .ok (.iconst 1, 1) := by decide +kernel
theorem zd111_88 : decode zxm111.2.1 88 = .ok (.iand, 1) := by decide +kernel
theorem zd111_89 : decode zxm111.2.1 89 = .ok (.ifCond .ne 6, 3) := by decide +kernel
theorem zd111_92 : decode zxm111.2.1 92 = .ok (.bipush (-2), 2) := by decide +kernel
theorem zd111_94 : decode zxm111.2.1 94 = .ok (.ireturn, 1) := by decide +kernel
theorem zd111_95 : decode zxm111.2.1 95 = .ok (.aload_n 0, 1) := by decide +kernel
theorem zd111_96 : decode zxm111.2.1 96 = .ok (.getfield 96, 3) := by decide +kernel
theorem zd111_99 : decode zxm111.2.1 99 = .ok (.aload_n 0, 1) := by decide +kernel
theorem zd111_100 : decode zxm111.2.1 100 = .ok (.getfield 69, 3) := by decide +kernel
theorem zd111_103 : decode zxm111.2.1 103 = .ok (.aload_n 0, 1) := by decide +kernel
theorem zd111_104 : decode zxm111.2.1 104 = .ok (.getfield 81, 3) := by decide +kernel
theorem zd111_107 : decode zxm111.2.1 107 = .ok (.getfield 218, 3) := by decide +kernel
theorem zd111_110 : decode zxm111.2.1 110 = .ok (.aload_n 0, 1) := by decide +kernel
theorem zd111_111 : decode zxm111.2.1 111 = .ok (.getfield 81, 3) := by decide +kernel
theorem zd111_114 : decode zxm111.2.1 114 = .ok (.getfield 90, 3) := by decide +kernel
theorem zd111_117 : decode zxm111.2.1 117 = .ok (.invokevirtual 263, 3) := by decide +kernel
theorem zd111_120 : decode zxm111.2.1 120 = .ok (.ifCond .eq 15, 3) := by decide +kernel
theorem zd111_123 : decode zxm111.2.1 123 = .ok (.aload_n 0, 1) := by decide +kernel
theorem zd111_124 : decode zxm111.2.1 124 = .ok (.getfield 96, 3) := by decide +kernel
theorem zd111_127 : decode zxm111.2.1 127 = .ok (.getfield 267, 3) := by decide +kernel
theorem zd111_130 : decode zxm111.2.1 130 = .ok (.iload_n 3, 1) := by decide +kernel
theorem zd111_131 : decode zxm111.2.1 131 = .ok (.iaload, 1) := by decide +kernel
theorem zd111_132 : decode zxm111.2.1 132 = .ok (.goto 5, 3) := by decide +kernel
theorem zd111_135 : decode zxm111.2.1 135 = .ok (.bipush (-2), 2) := by decide +kernel
theorem zd111_137 : decode zxm111.2.1 137 = .ok (.ireturn, 1) := by decide +kernel
theorem zt_X_matched {x1 : Int} {x2 : Int} {x3 : Int} {f1 : Int} {f5 : Int} {f6 : Int} {f7 : Int} {f8 : Int} {f9 : Int} {f10 : Int} {f11 : Int} {f12 : Int} {f13 : Int} {f14 : Int} {f15 : Int} {f16 : Int} {f17 : Int} {f18 : Int} {f19 : Int} {f20 : Int} {f21 : Int} {f22 : Int} {f25 : Int} {g0 : (Int → Int)} {g1 : (Int → Int)} {g2 : (Int → Int)} {g3 : (Int → Int)} {g4 : (Int → Int)} {g5 : (Int → Int)} {g6 : (Int → Int)} {g7 : (Int → Int)} {g8 : (Int → Int)} {g9 : (Int → Int)} {g10 : (Int → Int)} {g11 : (Int → Int)} {g12 : (Int → Int)} {g13 : (Int → Int)} {g14 : (Int → Int)} {g15 : (Int → Int)} {g16 : (Int → Int)} {o : Int × Int × Int × Int × Int × Int × Int × Int × (Int → Int) × (Int → Int) × (Int → Int) × (Int → Int) × (Int → Int) × (Int → Int) × (Int → Int) × (Int → Int)} (h : zf_X_matched x1 x2 x3 f1 f5 f6 f7 f8 f9 f10 f11 f12 f13 f14 f15 f16 f17 f18 f19 f20 f21 f22 f25 g0 g1 g2 g3 g4 g5 g6 g7 g8 g9 g10 g11 g12 g13 g14 g15 g16 = some o) : zv_Fn z_TB z_cl z_KX zy_X_matched zxm111 (14, 840) [.inr 0, .inl x1, .inl x2, .inl x3] [.inr 1, .inl f1, .inr 4, .inr 1000, .inr 1000, .inl f5, .inl f6, .inl f7, .inl f8, .inl f9, .inl f10, .inl f11, .inl f12, .inl f13, .inl f14, .inl f15, .inl f16, .inl f17, .inl f18, .inl f19, .inl f20, .inl f21, .inl f22, .inr 1000, .inr 1000, .inl f25] [g0, g1, g2, g3, g4, g5, g6, g7, g8, g9, g10, g11, g12, g13, g14, g15, g16] (some o.1) [.inr 1, .inl f1, .inr 4, .inr 1000, .inr 1000, .inl o.2.1, .inl o.2.2.1, .inl o.2.2.2.1, .inl f8, .inl f9, .inl o.2.2.2.2.1, .inl f11, .inl f12, .inl f13, .inl f14, .inl f15, .inl o.2.2.2.2.2.1, .inl f17, .inl o.2.2.2.2.2.2.1, .inl f19, .inl f20, .inl f21, .inl f22, .inr 1000, .inr 1000, .inl o.2.2.2.2.2.2.2.1] [o.2.2.2.2.2.2.2.2.1, o.2.2.2.2.2.2.2.2.2.1, g2, g3, g4, g5, g6, g7, g8, o.2.2.2.2.2.2.2.2.2.2.1, g10, o.2.2.2.2.2.2.2.2.2.2.2.1, o.2.2.2.2.2.2.2.2.2.2.2.2.1, o.2.2.2.2.2.2.2.2.2.2.2.2.2.1, g14, o.2.2.2.2.2.2.2.2.2.2.2.2.2.2.1, o.2.2.2.2.2.2.2.2.2.2.2.2.2.2.2] := zv_meth (K := (z_KF0, z_KC0, z_KL0, z_KT0, [], [], [], none)) (FT := z_FT) (MT := z_MT) (n := 4) zxp111 (z_ks0 _ (fun _ h => List.mem_cons_of_mem _ h) _ _ _ _ (fun j r h _ => by cases h)) (fun _ _ => zs_KX_p) zyw_X_matched (fun va F G h => by obtain ⟨rfl, _⟩ := h; rfl) (fun va F G h => by obtain ⟨rfl, _⟩ := h; rfl) rfl fun good va F G hB hret hvret hP => by
  obtain ⟨rfl, rfl, rfl⟩ := hP
  unfold zf_X_matched at h
  refine zv_ild hB zd111_0 rfl rfl ?_
  refine zv_ild hB zd111_1 rfl rfl ?_
  obtain ⟨r1, hr1, h⟩ := zi_bind h
  refine zv_cs hB (zv_emq (va2 := [.inl x1, .inl x2]) (F := [.inr 1, .inl f1, .inr 4, .inr 1000, .inr 1000, .inl f5, .inl f6, .inl f7, .inl f8, .inl f9, .inl f10, .inl f11, .inl f12, .inl f13, .inl f14, .inl f15, .inl f16, .inl f17, .inl f18, .inl f19, .inl f20, .inl f21, .inl f22, .inr 1000, .inr 1000, .inl f25]) (F' := [.inr 1, .inl f1, .inr 4, .inr 1000, .inr 1000, .inl f5, .inl f6, .inl f7, .inl f8, .inl f9, .inl f10, .inl f11, .inl f12, .inl f13, .inl f14, .inl f15, .inl f16, .inl f17, .inl f18, .inl f19, .inl f20, .inl f21, .inl f22, .inr 1000, .inr 1000, .inl f25]) (G := [g0, g1, g2, g3, g4, g5, g6, g7, g8, g9, g10, g11, g12, g13, g14, g15, g16]) (G' := [g0, g1, g2, g3, g4, g5, g6, g7, g8, g9, g10, g11, g12, g13, g14, g15, g16]) (ρ := []) (φ := []) (ψ := []) [none, none, none, none, none, none, none, none, none, none, none, none, none, none, none, none, none, none, none, none, none, none, none, none, none, none] [none, none, none, none, none, none, none, none, none, none, none, none, none, none, none, none, none] zyw_X_isPlace zyw_X_matched zye_X_matched (by decide +kernel) (zt_X_isPlace hr1) trivial trivial rfl rfl rfl rfl rfl rfl rfl) zd111_2 zxt16 rfl (by decide) (by decide) rfl ?_
  refine zv_zeq hB zd111_5 rfl (fun hc2 => ?_) (fun hc2 => ?_)
  · rw [if_pos hc2] at h
    refine zv_con hB zd111_18 rfl ?_
    have hw := Option.some.inj h
    subst hw
    exact hret _ _ _ _ _ zd111_20 (by trivial) ⟨rfl, rfl, rfl⟩
  · rw [if_neg hc2] at h
    refine zv_ild hB zd111_8 rfl rfl ?_
    refine zv_con hB zd111_9 rfl ?_
    refine zv_con hB zd111_10 rfl ?_
    obtain ⟨r3, hr3, h⟩ := zi_bind h
    refine zv_cs hB (zv_emq (va2 := [.inl x3, .inl (-1), .inl 7]) (F := [.inr 1, .inl f1, .inr 4, .inr 1000, .inr 1000, .inl f5, .inl f6, .inl f7, .inl f8, .inl f9, .inl f10, .inl f11, .inl f12, .inl f13, .inl f14, .inl f15, .inl f16, .inl f17, .inl f18, .inl f19, .inl f20, .inl f21, .inl f22, .inr 1000, .inr 1000, .inl f25]) (F' := [.inr 1, .inl f1, .inr 4, .inr 1000, .inr 1000, .inl f5, .inl f6, .inl f7, .inl f8, .inl f9, .inl f10, .inl f11, .inl f12, .inl f13, .inl f14, .inl f15, .inl f16, .inl f17, .inl f18, .inl f19, .inl f20, .inl f21, .inl f22, .inr 1000, .inr 1000, .inl f25]) (G := [g0, g1, g2, g3, g4, g5, g6, g7, g8, g9, g10, g11, g12, g13, g14, g15, g16]) (G' := [g0, g1, g2, g3, g4, g5, g6, g7, g8, g9, g10, g11, g12, g13, g14, g15, g16]) (ρ := []) (φ := []) (ψ := []) [none, none, none, none, none, none, none, none, none, none, none, none, none, none, none, none, none, none, none, none, none, none, none, none, none, none] [none, none, none, none, none, none, none, none, none, none, none, none, none, none, none, none, none] zyw_X_isWithin zyw_X_matched zye_X_matched (by decide +kernel) (zt_X_isWithin hr3) trivial trivial rfl rfl rfl rfl rfl rfl rfl) zd111_12 zxt15 rfl (by decide) (by decide) rfl ?_
    refine zv_zne hB zd111_15 rfl (fun hc4 => ?_) (fun hc4 => ?_)
    · rw [if_neg hc4] at h
      refine zv_ald hB zd111_21 rfl rfl rfl ?_
      refine zv_getq hB zd111_22 rfl rfl rfl ?_
      refine zv_getf hB zd111_25 rfl rfl (fun _ _ => ?_)
      refine zv_zne hB zd111_28 rfl (fun hc5 => ?_) (fun hc5 => ?_)
      · rw [if_neg hc5] at h
        refine zv_ald hB zd111_34 rfl rfl rfl ?_
        refine zv_ald hB zd111_35 rfl rfl rfl ?_
        refine zv_getr hB zd111_36 rfl ?_
        refine zv_ild hB zd111_39 rfl rfl ?_
        refine zv_ild hB zd111_40 rfl rfl ?_
        obtain ⟨r6, hr6, h⟩ := zi_bind h
        refine zv_cv hB (zv_emq (va2 := [.inr 0, .inr 2, .inl x1, .inl x2]) (F := [.inr 1, .inl f1, .inr 4, .inr 1000, .inr 1000, .inl f5, .inl f6, .inl f7, .inl f8, .inl f9, .inl f10, .inl f11, .inl f12, .inl f13, .inl f14, .inl f15, .inl f16, .inl f17, .inl f18, .inl f19, .inl f20, .inl f21, .inl f22, .inr 1000, .inr 1000, .inl f25]) (F' := [.inr 1, .inl f1, .inr 4, .inr 3, .inr 4, .inl r6.1, .inl r6.2.1, .inl r6.2.2.1, .inl f8, .inl f9, .inl r6.2.2.2.1, .inl f11, .inl f12, .inl f13, .inl f14, .inl f15, .inl r6.2.2.2.2.1, .inl f17, .inl r6.2.2.2.2.2.1, .inl f19, .inl f20, .inl f21, .inl f22, .inr 1000, .inr 1000, .inl f25]) (G := [g0, g1, g2, g3, g4, g5, g6, g7, g8, g9, g10, g11, g12, g13, g14, g15, g16]) (G' := [r6.2.2.2.2.2.2.1, r6.2.2.2.2.2.2.2.1, g2, g3, g4, g5, g6, g7, g8, r6.2.2.2.2.2.2.2.2.1, g10, r6.2.2.2.2.2.2.2.2.2.1, r6.2.2.2.2.2.2.2.2.2.2, g13, g14, g15, g16]) (ρ := [0, 2, 3, 4, 5, 6, 7, 8, 9, 10, 11, 12, 13, 14, 15, 16, 17]) (φ := [2, 3, 4, 5, 6, 7, 8, 9, 10, 11, 12, 13, 14, 15, 16, 17, 18, 19, 20, 21]) (ψ := [0, 1, 2, 3, 4, 5, 6, 7, 8, 9, 10, 11, 12]) [none, none, some 0, some 1, some 2, some 3, some 4, some 5, some 6, some 7, some 8, some 9, some 10, some 11, some 12, some 13, some 14, some 15, some 16, some 17, some 18, some 19, none, none, none, none] [some 0, some 1, some 2, some 3, some 4, some 5, some 6, some 7, some 8, some 9, some 10, some 11, some 12, none, none, none, none] zyw_X_lookAndDraw zyw_X_matched zye_X_matched (by decide +kernel) (zt_X_lookAndDraw hr6) ⟨⟨_, rfl, fun _ => rfl⟩, ⟨_, rfl, fun (h : zv_is (.inr 1000)) => (Nat.lt_irrefl 1000 h).elim⟩, ⟨_, rfl, fun (h : zv_is (.inr 1000)) => (Nat.lt_irrefl 1000 h).elim⟩, ⟨_, rfl, fun _ => rfl⟩, ⟨_, rfl, fun _ => rfl⟩, ⟨_, rfl, fun _ => rfl⟩, ⟨_, rfl, fun _ => rfl⟩, ⟨_, rfl, fun _ => rfl⟩, ⟨_, rfl, fun _ => rfl⟩, ⟨_, rfl, fun _ => rfl⟩, ⟨_, rfl, fun _ => rfl⟩, ⟨_, rfl, fun _ => rfl⟩, ⟨_, rfl, fun _ => rfl⟩, ⟨_, rfl, fun _ => rfl⟩, ⟨_, rfl, fun _ => rfl⟩, ⟨_, rfl, fun _ => rfl⟩, ⟨_, rfl, fun _ => rfl⟩, ⟨_, rfl, fun _ => rfl⟩, ⟨_, rfl, fun _ => rfl⟩, ⟨_, rfl, fun _ => rfl⟩, trivial⟩ ⟨rfl, rfl, rfl, rfl, rfl, rfl, rfl, rfl, rfl, rfl, rfl, rfl, rfl, trivial⟩ rfl rfl rfl rfl rfl rfl rfl) zd111_41 zxt96 rfl (by decide) (by decide) rfl ?_
        refine zv_ild hB zd111_44 rfl rfl ?_
        refine zv_con hB zd111_45 rfl ?_
        refine zv_cne hB zd111_46 rfl (fun hc7 => ?_) (fun hc7 => ?_)
        · rw [if_neg hc7] at h
          refine zv_ald hB zd111_78 rfl rfl rfl ?_
          refine zv_getq hB zd111_79 rfl rfl rfl ?_
          refine zv_getf hB zd111_82 rfl rfl (fun _ _ => ?_)
          refine zv_ild hB zd111_85 rfl rfl ?_
          refine zv_shrw hB zd111_86 ?_
          refine zv_con hB zd111_87 rfl ?_
          refine zv_andw hB zd111_88 ?_
          refine zv_zne hB zd111_89 rfl (fun hc8 => ?_) (fun hc8 => ?_)
          · rw [if_neg hc8] at h
            refine zv_ald hB zd111_95 rfl rfl rfl ?_
            refine zv_getr hB zd111_96 rfl ?_
            refine zv_ald hB zd111_99 rfl rfl rfl ?_
            refine zv_getq hB zd111_100 rfl rfl rfl ?_
            refine zv_ald hB zd111_103 rfl rfl rfl ?_
            refine zv_getr hB zd111_104 rfl ?_
            refine zv_getf hB zd111_107 rfl rfl (fun _ _ => ?_)
            refine zv_ald hB zd111_110 rfl rfl rfl ?_
            refine zv_getr hB zd111_111 rfl ?_
            refine zv_getr hB zd111_114 rfl ?_
            obtain ⟨r9, hr9, h⟩ := zi_bind h
            refine zv_cv hB (zv_emq (va2 := [.inr 18, .inr 1, .inl r6.2.2.2.1, .inr 16]) (F := [.inr 1, .inl f1, .inr 4, .inr 3, .inr 4, .inl r6.1, .inl r6.2.1, .inl r6.2.2.1, .inl f8, .inl f9, .inl r6.2.2.2.1, .inl f11, .inl f12, .inl f13, .inl f14, .inl f15, .inl r6.2.2.2.2.1, .inl f17, .inl r6.2.2.2.2.2.1, .inl f19, .inl f20, .inl f21, .inl f22, .inr 1000, .inr 1000, .inl f25]) (F' := [.inr 1, .inl f1, .inr 4, .inr 3, .inr 4, .inl r6.1, .inl r6.2.1, .inl r6.2.2.1, .inl f8, .inl f9, .inl r6.2.2.2.1, .inl f11, .inl f12, .inl f13, .inl f14, .inl f15, .inl r6.2.2.2.2.1, .inl f17, .inl r6.2.2.2.2.2.1, .inl f19, .inl f20, .inl f21, .inl f22, .inr 1, .inr 16, .inl r9.2.1]) (G := [r6.2.2.2.2.2.2.1, r6.2.2.2.2.2.2.2.1, g2, g3, g4, g5, g6, g7, g8, r6.2.2.2.2.2.2.2.2.1, g10, r6.2.2.2.2.2.2.2.2.2.1, r6.2.2.2.2.2.2.2.2.2.2, g13, g14, g15, g16]) (G' := [r6.2.2.2.2.2.2.1, r6.2.2.2.2.2.2.2.1, g2, g3, g4, g5, g6, g7, g8, r6.2.2.2.2.2.2.2.2.1, g10, r6.2.2.2.2.2.2.2.2.2.1, r6.2.2.2.2.2.2.2.2.2.2, r9.2.2.1, g14, r9.2.2.2.1, r9.2.2.2.2]) (ρ := [18, 1, 16, 19, 20, 21, 22]) (φ := [23, 24, 25, 22]) (ψ := [11, 13, 14, 15, 16]) [none, none, none, none, none, none, none, none, none, none, none, none, none, none, none, none, none, none, none, none, none, none, some 3, some 0, some 1, some 2] [none, none, none, none, none, none, none, none, none, none, none, some 0, none, some 1, some 2, some 3, some 4] zyw_Matcher_findFirst_24 zyw_X_matched zye_X_matched (by decide +kernel) (zt_Matcher_findFirst_24 hr9) ⟨⟨_, rfl, fun (h : zv_is (.inr 1000)) => (Nat.lt_irrefl 1000 h).elim⟩, ⟨_, rfl, fun (h : zv_is (.inr 1000)) => (Nat.lt_irrefl 1000 h).elim⟩, ⟨_, rfl, fun _ => rfl⟩, ⟨_, rfl, fun _ => rfl⟩, trivial⟩ ⟨rfl, rfl, rfl, rfl, rfl, trivial⟩ rfl rfl rfl rfl rfl rfl rfl) zd111_117 zxt120 rfl (by decide) (by decide) rfl ?_
            refine zv_zeq hB zd111_120 rfl (fun hc10 => ?_) (fun hc10 => ?_)
            · rw [if_pos hc10] at h
              refine zv_con hB zd111_135 rfl ?_
              have hw := Option.some.inj h
              refine zv_wk hB (L' := [.inr 0, .inl x1, .inl x2, .inl x3]) (F' := [.inr 1, .inl f1, .inr 4, .inr 1000, .inr 1000, .inl r6.1, .inl r6.2.1, .inl r6.2.2.1, .inl f8, .inl f9, .inl r6.2.2.2.1, .inl f11, .inl f12, .inl f13, .inl f14, .inl f15, .inl r6.2.2.2.2.1, .inl f17, .inl r6.2.2.2.2.2.1, .inl f19, .inl f20, .inl f21, .inl f22, .inr 1000, .inr 1000, .inl r9.2.1]) ⟨fun _ => rfl, fun _ => rfl, fun _ => rfl, fun _ => rfl, trivial⟩ ⟨fun _ => rfl, fun _ => rfl, fun _ => rfl, fun (h : zv_is (.inr 1000)) => (Nat.lt_irrefl 1000 h).elim, fun (h : zv_is (.inr 1000)) => (Nat.lt_irrefl 1000 h).elim, fun _ => rfl, fun _ => rfl, fun _ => rfl, fun _ => rfl, fun _ => rfl, fun _ => rfl, fun _ => rfl, fun _ => rfl, fun _ => rfl, fun _ => rfl, fun _ => rfl, fun _ => rfl, fun _ => rfl, fun _ => rfl, fun _ => rfl, fun _ => rfl, fun _ => rfl, fun _ => rfl, fun (h : zv_is (.inr 1000)) => (Nat.lt_irrefl 1000 h).elim, fun (h : zv_is (.inr 1000)) => (Nat.lt_irrefl 1000 h).elim, fun _ => rfl, trivial⟩ ?_
              subst hw
              exact hret _ _ _ _ _ zd111_137 (by trivial) ⟨rfl, rfl, rfl⟩
            · rw [if_neg hc10] at h
              refine zv_ald hB zd111_123 rfl rfl rfl ?_
              refine zv_getr hB zd111_124 rfl ?_
              refine zv_getr hB zd111_127 rfl ?_
              refine zv_ild hB zd111_130 rfl rfl ?_
              obtain ⟨c11, h⟩ := zi_if h
              refine zv_iald hB zd111_131 rfl rfl (zi_ix_ok c11).1 (zi_ix_ok c11).2 (fun _ _ => ?_)
              refine zv_goto hB zd111_132 rfl ?_
              have hw := Option.some.inj h
              refine zv_wk hB (L' := [.inr 0, .inl x1, .inl x2, .inl x3]) (F' := [.inr 1, .inl f1, .inr 4, .inr 1000, .inr 1000, .inl r6.1, .inl r6.2.1, .inl r6.2.2.1, .inl f8, .inl f9, .inl r6.2.2.2.1, .inl f11, .inl f12, .inl f13, .inl f14, .inl f15, .inl r6.2.2.2.2.1, .inl f17, .inl r6.2.2.2.2.2.1, .inl f19, .inl f20, .inl f21, .inl f22, .inr 1000, .inr 1000, .inl r9.2.1]) ⟨fun _ => rfl, fun _ => rfl, fun _ => rfl, fun _ => rfl, trivial⟩ ⟨fun _ => rfl, fun _ => rfl, fun _ => rfl, fun (h : zv_is (.inr 1000)) => (Nat.lt_irrefl 1000 h).elim, fun (h : zv_is (.inr 1000)) => (Nat.lt_irrefl 1000 h).elim, fun _ => rfl, fun _ => rfl, fun _ => rfl, fun _ => rfl, fun _ => rfl, fun _ => rfl, fun _ => rfl, fun _ => rfl, fun _ => rfl, fun _ => rfl, fun _ => rfl, fun _ => rfl, fun _ => rfl, fun _ => rfl, fun _ => rfl, fun _ => rfl, fun _ => rfl, fun _ => rfl, fun (h : zv_is (.inr 1000)) => (Nat.lt_irrefl 1000 h).elim, fun (h : zv_is (.inr 1000)) => (Nat.lt_irrefl 1000 h).elim, fun _ => rfl, trivial⟩ ?_
              subst hw
              exact hret _ _ _ _ _ zd111_137 (by trivial) ⟨rfl, rfl, rfl⟩
          · rw [if_pos hc8] at h
            refine zv_con hB zd111_92 rfl ?_
            have hw := Option.some.inj h
            refine zv_wk hB (L' := [.inr 0, .inl x1, .inl x2, .inl x3]) (F' := [.inr 1, .inl f1, .inr 4, .inr 1000, .inr 1000, .inl r6.1, .inl r6.2.1, .inl r6.2.2.1, .inl f8, .inl f9, .inl r6.2.2.2.1, .inl f11, .inl f12, .inl f13, .inl f14, .inl f15, .inl r6.2.2.2.2.1, .inl f17, .inl r6.2.2.2.2.2.1, .inl f19, .inl f20, .inl f21, .inl f22, .inr 1000, .inr 1000, .inl f25]) ⟨fun _ => rfl, fun _ => rfl, fun _ => rfl, fun _ => rfl, trivial⟩ ⟨fun _ => rfl, fun _ => rfl, fun _ => rfl, fun (h : zv_is (.inr 1000)) => (Nat.lt_irrefl 1000 h).elim, fun (h : zv_is (.inr 1000)) => (Nat.lt_irrefl 1000 h).elim, fun _ => rfl, fun _ => rfl, fun _ => rfl, fun _ => rfl, fun _ => rfl, fun _ => rfl, fun _ => rfl, fun _ => rfl, fun _ => rfl, fun _ => rfl, fun _ => rfl, fun _ => rfl, fun _ => rfl, fun _ => rfl, fun _ => rfl, fun _ => rfl, fun _ => rfl, fun _ => rfl, fun (h : zv_is (.inr 1000)) => (Nat.lt_irrefl 1000 h).elim, fun (h : zv_is (.inr 1000)) => (Nat.lt_irrefl 1000 h).elim, fun _ => rfl, trivial⟩ ?_
            subst hw
            exact hret _ _ _ _ _ zd111_94 (by trivial) ⟨rfl, rfl, rfl⟩
        · rw [if_pos hc7] at h
          refine zv_ald hB zd111_49 rfl rfl rfl ?_
          refine zv_getr hB zd111_50 rfl ?_
          refine zv_ald hB zd111_53 rfl rfl rfl ?_
          refine zv_getq hB zd111_54 rfl rfl rfl ?_
          refine zv_ald hB zd111_57 rfl rfl rfl ?_
          refine zv_getr hB zd111_58 rfl ?_
          refine zv_getf hB zd111_61 rfl rfl (fun _ _ => ?_)
          refine zv_ald hB zd111_64 rfl rfl rfl ?_
          refine zv_getr hB zd111_65 rfl ?_
          refine zv_getr hB zd111_68 rfl ?_
          refine zv_con hB zd111_71 rfl ?_
          obtain ⟨r12, hr12, h⟩ := zi_bind h
          refine zv_cv hB (zv_emq (va2 := [.inr 18, .inr 1, .inl r6.2.2.2.1, .inr 16, .inl 10000]) (F := [.inr 1, .inl f1, .inr 4, .inr 3, .inr 4, .inl r6.1, .inl r6.2.1, .inl r6.2.2.1, .inl f8, .inl f9, .inl r6.2.2.2.1, .inl f11, .inl f12, .inl f13, .inl f14, .inl f15, .inl r6.2.2.2.2.1, .inl f17, .inl r6.2.2.2.2.2.1, .inl f19, .inl f20, .inl f21, .inl f22, .inr 1000, .inr 1000, .inl f25]) (F' := [.inr 1, .inl f1, .inr 4, .inr 3, .inr 4, .inl r6.1, .inl r6.2.1, .inl r6.2.2.1, .inl f8, .inl f9, .inl r6.2.2.2.1, .inl f11, .inl f12, .inl f13, .inl f14, .inl f15, .inl r6.2.2.2.2.1, .inl f17, .inl r6.2.2.2.2.2.1, .inl f19, .inl f20, .inl f21, .inl f22, .inr 1, .inr 16, .inl r12.2.1]) (G := [r6.2.2.2.2.2.2.1, r6.2.2.2.2.2.2.2.1, g2, g3, g4, g5, g6, g7, g8, r6.2.2.2.2.2.2.2.2.1, g10, r6.2.2.2.2.2.2.2.2.2.1, r6.2.2.2.2.2.2.2.2.2.2, g13, g14, g15, g16]) (G' := [r6.2.2.2.2.2.2.1, r6.2.2.2.2.2.2.2.1, g2, g3, g4, g5, g6, g7, g8, r6.2.2.2.2.2.2.2.2.1, g10, r6.2.2.2.2.2.2.2.2.2.1, r6.2.2.2.2.2.2.2.2.2.2, r12.2.2.1, g14, r12.2.2.2.1, r12.2.2.2.2]) (ρ := [18, 1, 16, 19, 20, 21, 22]) (φ := [23, 24, 25, 22]) (ψ := [11, 13, 14, 15, 16]) [none, none, none, none, none, none, none, none, none, none, none, none, none, none, none, none, none, none, none, none, none, none, some 3, some 0, some 1, some 2] [none, none, none, none, none, none, none, none, none, none, none, some 0, none, some 1, some 2, some 3, some 4] zyw_Matcher_countWays_24 zyw_X_matched zye_X_matched (by decide +kernel) (zt_Matcher_countWays_24 hr12) ⟨⟨_, rfl, fun (h : zv_is (.inr 1000)) => (Nat.lt_irrefl 1000 h).elim⟩, ⟨_, rfl, fun (h : zv_is (.inr 1000)) => (Nat.lt_irrefl 1000 h).elim⟩, ⟨_, rfl, fun _ => rfl⟩, ⟨_, rfl, fun _ => rfl⟩, trivial⟩ ⟨rfl, rfl, rfl, rfl, rfl, trivial⟩ rfl rfl rfl rfl rfl rfl rfl) zd111_74 zxt112 rfl (by decide) (by decide) rfl ?_
          have hw := Option.some.inj h
          refine zv_wk hB (L' := [.inr 0, .inl x1, .inl x2, .inl x3]) (F' := [.inr 1, .inl f1, .inr 4, .inr 1000, .inr 1000, .inl r6.1, .inl r6.2.1, .inl r6.2.2.1, .inl f8, .inl f9, .inl r6.2.2.2.1, .inl f11, .inl f12, .inl f13, .inl f14, .inl f15, .inl r6.2.2.2.2.1, .inl f17, .inl r6.2.2.2.2.2.1, .inl f19, .inl f20, .inl f21, .inl f22, .inr 1000, .inr 1000, .inl r12.2.1]) ⟨fun _ => rfl, fun _ => rfl, fun _ => rfl, fun _ => rfl, trivial⟩ ⟨fun _ => rfl, fun _ => rfl, fun _ => rfl, fun (h : zv_is (.inr 1000)) => (Nat.lt_irrefl 1000 h).elim, fun (h : zv_is (.inr 1000)) => (Nat.lt_irrefl 1000 h).elim, fun _ => rfl, fun _ => rfl, fun _ => rfl, fun _ => rfl, fun _ => rfl, fun _ => rfl, fun _ => rfl, fun _ => rfl, fun _ => rfl, fun _ => rfl, fun _ => rfl, fun _ => rfl, fun _ => rfl, fun _ => rfl, fun _ => rfl, fun _ => rfl, fun _ => rfl, fun _ => rfl, fun (h : zv_is (.inr 1000)) => (Nat.lt_irrefl 1000 h).elim, fun (h : zv_is (.inr 1000)) => (Nat.lt_irrefl 1000 h).elim, fun _ => rfl, trivial⟩ ?_
          subst hw
          exact hret _ _ _ _ _ zd111_77 (by trivial) ⟨rfl, rfl, rfl⟩
      · rw [if_pos hc5] at h
        refine zv_con hB zd111_31 rfl ?_
        have hw := Option.some.inj h
        subst hw
        exact hret _ _ _ _ _ zd111_33 (by trivial) ⟨rfl, rfl, rfl⟩
    · rw [if_pos hc4] at h
      refine zv_con hB zd111_18 rfl ?_
      have hw := Option.some.inj h
      subst hw
      exact hret _ _ _ _ _ zd111_20 (by trivial) ⟨rfl, rfl, rfl⟩
/-! X_canBeTold (I)Z -/
-- names: 0 StarTales('arg', 0), 1 View(0, 0, 12), 2 Law(1, 7, 1), 3 (0, 13)(2, 4, 12), 4 Sky(1, 7, 0), 5 (0, 24)(4, 1, 1), 6 (0, 24)(4, 1, 2), 7 (0, 24)(4, 1, 3), 8 (0, 14)(2, 4, 3), 9 (0, 14)(2, 4, 5), 10 (0, 14)(2, 4, 6), 11 (0, 200)(2, 4, 0), 12 (0, 40)(2, 4, 13), 13 (0, 200)(2, 4, 1), 14 Tale(0, 0, 10), 15 (0, 24)(1, 7, 5), 16 (0, 24)(1, 7, 8), 17 (0, 24)(1, 7, 9), 18 Matcher(0, 0, 14), 19 (0, 72)(18, 8, 0), 20 (0, 8)(14, 6, 2), 21 (0, 24)(18, 8, 1), 22 (0, 8)(18, 8, 2)
-- fields: f0 = 1.law_, f1 = 1.sky_, f2 = 1.x_, f3 = 1.y_, f4 = 4.hour_, f5 = 4.night_, f6 = 1.shown_, f7 = 4.told_, f8 = 4.sightColumns_, f9 = 4.sightRows_, f10 = 4.clouds_, f11 = 2.tellsSeen_, f12 = 1.starsAsked_, f13 = 1.starsHold_, f14 = 2.clauses_, f15 = 2.answer_, f16 = 2.seenByPlace_, f17 = 0.telling_, f18 = 14.names_, f19 = 2.tellsLines_, f20 = 2.linesByPlace_, f21 = 18.tale_, f22 = 18.joined_, f23 = 18.deadEnds_; arrays: g0 = 3, g1 = 5, g2 = 6, g3 = 7, g4 = 8, g5 = 9, g6 = 10, g7 = 11, g8 = 12, g9 = 13, g10 = 15, g11 = 16, g12 = 17, g13 = 19, g14 = 20, g15 = 21, g16 = 22; out: [('ret', None), ('f', 2), ('f', 3), ('f', 6), ('f', 12), ('f', 13), ('f', 15), ('f', 23), ('g', 0), ('g', 8), ('g', 10), ('g', 11), ('g', 12), ('g', 13), ('g', 15), ('g', 16)]
abbrev zy_X_canBeTold : zNL := (23, [(0, 0), (1, 7), (2, 4), (4, 1), (14, 6), (18, 8)], [(1, 7, 1, 0), (1, 7, 0, 1), (1, 7, 2, 2), (1, 7, 3, 3), (4, 1, 6, 4), (4, 1, 7, 5), (1, 7, 4, 6), (4, 1, 0, 7), (4, 1, 9, 8), (4, 1, 10, 9), (4, 1, 8, 10), (2, 4, 8, 11), (1, 7, 6, 12), (1, 7, 7, 13), (2, 4, 7, 14), (2, 4, 14, 15), (2, 4, 10, 16), (0, 0, 10, 17), (14, 6, 1, 18), (2, 4, 9, 19), (2, 4, 11, 20), (18, 8, 3, 21), (18, 8, 4, 22), (18, 8, 6, 23)], [(0, 0, 12, 1), (2, 4, 12, 3), (4, 1, 1, 5), (4, 1, 2, 6), (4, 1, 3, 7), (2, 4, 3, 8), (2, 4, 5, 9), (2, 4, 6, 10), (2, 4, 0, 11), (2, 4, 13, 12), (2, 4, 1, 13), (1, 7, 5, 15), (1, 7, 8, 16), (1, 7, 9, 17), (0, 0, 14, 18), (18, 8, 0, 19), (14, 6, 2, 20), (18, 8, 1, 21), (18, 8, 2, 22)], [(3, 0, 13, 0), (5, 0, 24, 1), (6, 0, 24, 2), (7, 0, 24, 3), (8, 0, 14, 4), (9, 0, 14, 5), (10, 0, 14, 6), (11, 0, 200, 7), (12, 0, 40, 8), (13, 0, 200, 9), (15, 0, 24, 10), (16, 0, 24, 11), (17, 0, 24, 12), (19, 0, 72, 13), (20, 0, 8, 14), (21, 0, 24, 15), (22, 0, 8, 16)])
theorem zyw_X_canBeTold : zv_wf zy_X_canBeTold = true := by decide +kernel
theorem zye_X_canBeTold : zv_ek2 zy_X_canBeTold = true := by decide +kernel
def zf_X_canBeTold (x1 : Int) (f2 : Int) (f3 : Int) (f4 : Int) (f5 : Int) (f6 : Int) (f7 : Int) (f8 : Int) (f9 : Int) (f10 : Int) (f11 : Int) (f12 : Int) (f13 : Int) (f14 : Int) (f15 : Int) (f16 : Int) (f18 : Int) (f19 : Int) (f20 : Int) (f23 : Int) (g0 : (Int → Int)) (g1 : (Int → Int)) (g2 : (Int → Int)) (g3 : (Int → Int)) (g4 : (Int → Int)) (g5 : (Int → Int)) (g6 : (Int → Int)) (g7 : (Int → Int)) (g8 : (Int → Int)) (g9 : (Int → Int)) (g10 : (Int → Int)) (g11 : (Int → Int)) (g12 : (Int → Int)) (g13 : (Int → Int)) (g14 : (Int → Int)) (g15 : (Int → Int)) (g16 : (Int → Int)) : Option (Int × Int × Int × Int × Int × Int × Int × Int × (Int → Int) × (Int → Int) × (Int → Int) × (Int → Int) × (Int → Int) × (Int → Int) × (Int → Int) × (Int → Int)) := (zf_X_columnOf x1).bind fun r1 => ((zf_X_rowOf x1).bind fun r2 => ((zf_View_look r1 r2 f2 f3 f4 f5 f6 f7 f8 f9 f10 f11 f12 f13 f14 f15 f16 g0 g1 g2 g3 g4 g5 g6 g7 g8 g9).bind fun r3 => ((zf_Integer_bitCount r3.2.2.1).bind fun r4 => ((zf_Integer_bitCount f18).bind fun r5 => (if r4 < r5 then (some (0, r3.1, r3.2.1, r3.2.2.1, r3.2.2.2.1, r3.2.2.2.2.1, r3.2.2.2.2.2.1, f23, r3.2.2.2.2.2.2.1, r3.2.2.2.2.2.2.2, g10, g11, g12, g13, g15, g16)) else ((zf_View_draw f19 r3.1 r3.2.1 f4 f5 r3.2.2.1 f14 r3.2.2.2.2.2.1 f20 g10 r3.2.2.2.2.2.2.1 g11 g12 g3 g2 g1 g4 g5 g6 g7 r3.2.2.2.2.2.2.2 g9).bind fun r7 => ((zf_Matcher_countWays_24 r3.2.2.1 1 f23 f18 r7.2.2.2.1 g13 g14 g15 g16).bind fun r8 => (if 0 < r8.1 then (some (1, r7.1, r7.2.1, r3.2.2.1, r3.2.2.2.1, r3.2.2.2.2.1, r7.2.2.1, r8.2.1, r7.2.2.2.2.1, r7.2.2.2.2.2.2.2, r7.2.2.2.1, r7.2.2.2.2.2.1, r7.2.2.2.2.2.2.1, r8.2.2.1, r8.2.2.2.1, r8.2.2.2.2)) else (some (0, r7.1, r7.2.1, r3.2.2.1, r3.2.2.2.1, r3.2.2.2.2.1, r7.2.2.1, r8.2.1, r7.2.2.2.2.1, r7.2.2.2.2.2.2.2, r7.2.2.2.1, r7.2.2.2.2.2.1, r7.2.2.2.2.2.2.1, r8.2.2.1, r8.2.2.2.1, r8.2.2.2.2))))))))))
theorem zd123_0 : decode zxm123.2.1 0 = .ok (.aload_n 0, 1) := by decide +kernel
theorem zd123_1 : decode zxm123.2.1 1 = .ok (.getfield 81, 3) := by decide +kernel
theorem zd123_4 : decode zxm123.2.1 4 = .ok (.iload_n 1, 1) := by decide +kernel
theorem zd123_5 : decode zxm123.2.1 5 = .ok (.invokestatic 293, 3) := by decide +kernel
theorem zd123_8 : decode zxm123.2.1 8 = .ok (.iload_n 1, 1) := by decide +kernel
theorem zd123_9 : decode zxm123.2.1 9 = .ok (.invokestatic 296, 3) := by decide +kernel
theorem zd123_12 : decode zxm123.2.1 12 = .ok (.invokevirtual 214, 3) := by decide +kernel
theorem zd123_15 : decode zxm123.2.1 15 = .ok (.aload_n 0, 1) := by decide +kernel
theorem zd123_16 : decode zxm123.2.1 16 = .ok (.getfield 81, 3) := by decide +kernel
theorem zd123_19 : decode zxm123.2.1 19 = .ok (.getfield 218, 3) := by decide +kernel
theorem zd123_22 : decode zxm123.2.1 22 = .ok (.invokestatic 235, 3) := by decide +kernel
theorem zd123_25 : decode zxm123.2.1 25 = .ok (.aload_n 0, 1) := by decide +kernel
theorem zd123_26 : decode zxm123.2.1 26 = .ok (.getfield 69, 3) := by decide +kernel
theorem zd123_29 : decode zxm123.2.1 29 = .ok (.getfield 260, 3) := by decide +kernel
theorem zd123_32 : decode zxm123.2.1 32 = .ok (.invokestatic 235, 3) := by decide +kernel
theorem zd123_35 : decode zxm123.2.1 35 = .ok (.if_icmp .ge 5, 3) := by decide +kernel
theorem zd123_38 : decode zxm123.2.1 38 = .ok (.iconst 0, 1) := by decide +kernel
theorem zd123_39 : decode zxm123.2.1 39 = .ok (.ireturn, 1) := by decide +kernel
theorem zd123_40 : decode zxm123.2.1 40 = .ok (.aload_n 0, 1) := by decide +kernel
theorem zd123_41 : decode zxm123.2.1 41 = .ok (.getfield 81, 3) := by decide +kernel
theorem zd123_44 : decode zxm123.2.1 44 = .ok (.invokevirtual 403, 3) := by decide +kernel
theorem zd123_47 : decode zxm123.2.1 47 = .ok (.aload_n 0, 1) := by decide +kernel
theorem zd123_48 : decode zxm123.2.1 48 = .ok (.getfield 96, 3) := by decide +kernel
theorem zd123_51 : decode zxm123.2.1 51 = .ok (.aload_n 0, 1) := by decide +kernel
theorem zd123_52 : decode zxm123.2.1 52 = .ok (.getfield 69, 3) := by decide +kernel
theorem zd123_55 : decode zxm123.2.1 55 = .ok (.aload_n 0, 1) := by decide +kernel
theorem zd123_56 : decode zxm123.2.1 56 = .ok (.getfield 81, 3) := by decide +kernel
theorem zd123_59 : decode zxm123.2.1 59 = .ok (.getfield 218, 3) := by decide +kernel
theorem zd123_62 : decode zxm123.2.1 62 = .ok (.aload_n 0, 1) := by decide +kernel
theorem zd123_63 : decode zxm123.2.1 63 = .ok (.getfield 81, 3) := by decide +kernel
theorem zd123_66 : decode zxm123.2.1 66 = .ok (.getfield 90, 3) := by decide +kernel
theorem zd123_69 : decode zxm123.2.1 69 = .ok (.iconst 1, 1) := by decide +kernel
theorem zd123_70 : decode zxm123.2.1 70 = .ok (.invokevirtual 256, 3) := by decide +kernel
theorem zd123_73 : decode zxm123.2.1 73 = .ok (.ifCond .le 7, 3) := by decide +kernel
theorem zd123_76 : decode zxm123.2.1 76 = .ok (.iconst 1, 1) := by decide +kernel
theorem zd123_77 : decode zxm123.2.1 77 = .ok (.goto 4, 3) := by decide +kernel
theorem zd123_80 : decode zxm123.2.1 80 = .ok (.iconst 0, 1) := by decide +kernel
theorem zd123_81 : decode zxm123.2.1 81 = .ok (.ireturn, 1) := by decide +kernel
theorem zt_X_canBeTold {x1 : Int} {f2 : Int} {f3 : Int} {f4 : Int} {f5 : Int} {f6 : Int} {f7 : Int} {f8 : Int} {f9 : Int} {f10 : Int} {f11 : Int} {f12 : Int} {f13 : Int} {f14 : Int} {f15 : Int} {f16 : Int} {f18 : Int} {f19 : Int} {f20 : Int} {f23 : Int} {g0 : (Int → Int)} {g1 : (Int → Int)} {g2 : (Int → Int)} {g3 : (Int → Int)} {g4 : (Int → Int)} {g5 : (Int → Int)} {g6 : (Int → Int)} {g7 : (Int → Int)} {g8 : (Int → Int)} {g9 : (Int → Int)} {g10 : (Int → Int)} {g11 : (Int → Int)} {g12 : (Int → Int)} {g13 : (Int → Int)} {g14 : (Int → Int)} {g15 : (Int → Int)} {g16 : (Int → Int)} {o : Int × Int × Int × Int × Int × Int × Int × Int × (Int → Int) × (Int → Int) × (Int → Int) × (Int → Int) × (Int → Int) × (Int → Int) × (Int → Int) × (Int → Int)} (h : zf_X_canBeTold x1 f2 f3 f4 f5 f6 f7 f8 f9 f10 f11 f12 f13 f14 f15 f16 f18 f19 f20 f23 g0 g1 g2 g3 g4 g5 g6 g7 g8 g9 g10 g11 g12 g13 g14 g15 g16 = some o) : zv_Fn z_TB z_cl z_KX zy_X_canBeTold zxm123 (13, 780) [.inr 0, .inl x1] [.inr 2, .inr 4, .inl f2, .inl f3, .inl f4, .inl f5, .inl f6, .inl f7, .inl f8, .inl f9, .inl f10, .inl f11, .inl f12, .inl f13, .inl f14, .inl f15, .inl f16, .inr 14, .inl f18, .inl f19, .inl f20, .inr 1000, .inr 1000, .inl f23] [g0, g1, g2, g3, g4, g5, g6, g7, g8, g9, g10, g11, g12, g13, g14, g15, g16] (some o.1) [.inr 2, .inr 4, .inl o.2.1, .inl o.2.2.1, .inl f4, .inl f5, .inl o.2.2.2.1, .inl f7, .inl f8, .inl f9, .inl f10, .inl f11, .inl o.2.2.2.2.1, .inl o.2.2.2.2.2.1, .inl f14, .inl o.2.2.2.2.2.2.1, .inl f16, .inr 14, .inl f18, .inl f19, .inl f20, .inr 1000, .inr 1000, .inl o.2.2.2.2.2.2.2.1] [o.2.2.2.2.2.2.2.2.1, g1, g2, g3, g4, g5, g6, g7, o.2.2.2.2.2.2.2.2.2.1, g9, o.2.2.2.2.2.2.2.2.2.2.1, o.2.2.2.2.2.2.2.2.2.2.2.1, o.2.2.2.2.2.2.2.2.2.2.2.2.1, o.2.2.2.2.2.2.2.2.2.2.2.2.2.1, g14, o.2.2.2.2.2.2.2.2.2.2.2.2.2.2.1, o.2.2.2.2.2.2.2.2.2.2.2.2.2.2.2] := zv_meth (K := (z_KF0, z_KC0, z_KL0, z_KT0, [], [], [], none)) (FT := z_FT) (MT := z_MT) (n := 2) zxp123 (z_ks0 _ (fun _ h => List.mem_cons_of_mem _ h) _ _ _ _ (fun j r h _ => by cases h)) (fun _ _ => zs_KX_p) zyw_X_canBeTold (fun va F G h => by obtain ⟨rfl, _⟩ := h; rfl) (fun va F G h => by obtain ⟨rfl, _⟩ := h; rfl) rfl fun good va F G hB hret hvret hP => by
  obtain ⟨rfl, rfl, rfl⟩ := hP
  unfold zf_X_canBeTold at h
  refine zv_ald hB zd123_0 rfl rfl rfl ?_
  refine zv_getr hB zd123_1 rfl ?_
  refine zv_ild hB zd123_4 rfl rfl ?_
  obtain ⟨r1, hr1, h⟩ := zi_bind h
  refine zv_cs hB (zv_emq (va2 := [.inl x1]) (F := [.inr 2, .inr 4, .inl f2, .inl f3, .inl f4, .inl f5, .inl f6, .inl f7, .inl f8, .inl f9, .inl f10, .inl f11, .inl f12, .inl f13, .inl f14, .inl f15, .inl f16, .inr 14, .inl f18, .inl f19, .inl f20, .inr 1000, .inr 1000, .inl f23]) (F' := [.inr 2, .inr 4, .inl f2, .inl f3, .inl f4, .inl f5, .inl f6, .inl f7, .inl f8, .inl f9, .inl f10, .inl f11, .inl f12, .inl f13, .inl f14, .inl f15, .inl f16, .inr 14, .inl f18, .inl f19, .inl f20, .inr 1000, .inr 1000, .inl f23]) (G := [g0, g1, g2, g3, g4, g5, g6, g7, g8, g9, g10, g11, g12, g13, g14, g15, g16]) (G' := [g0, g1, g2, g3, g4, g5, g6, g7, g8, g9, g10, g11, g12, g13, g14, g15, g16]) (ρ := []) (φ := []) (ψ := []) [none, none, none, none, none, none, none, none, none, none, none, none, none, none, none, none, none, none, none, none, none, none, none, none] [none, none, none, none, none, none, none, none, none, none, none, none, none, none, none, none, none] zyw_X_columnOf zyw_X_canBeTold zye_X_canBeTold (by decide +kernel) (zt_X_columnOf hr1) trivial trivial rfl rfl rfl rfl rfl rfl rfl) zd123_5 zxt31 rfl (by decide) (by decide) rfl ?_
  refine zv_ild hB zd123_8 rfl rfl ?_
  obtain ⟨r2, hr2, h⟩ := zi_bind h
  refine zv_cs hB (zv_emq (va2 := [.inl x1]) (F := [.inr 2, .inr 4, .inl f2, .inl f3, .inl f4, .inl f5, .inl f6, .inl f7, .inl f8, .inl f9, .inl f10, .inl f11, .inl f12, .inl f13, .inl f14, .inl f15, .inl f16, .inr 14, .inl f18, .inl f19, .inl f20, .inr 1000, .inr 1000, .inl f23]) (F' := [.inr 2, .inr 4, .inl f2, .inl f3, .inl f4, .inl f5, .inl f6, .inl f7, .inl f8, .inl f9, .inl f10, .inl f11, .inl f12, .inl f13, .inl f14, .inl f15, .inl f16, .inr 14, .inl f18, .inl f19, .inl f20, .inr 1000, .inr 1000, .inl f23]) (G := [g0, g1, g2, g3, g4, g5, g6, g7, g8, g9, g10, g11, g12, g13, g14, g15, g16]) (G' := [g0, g1, g2, g3, g4, g5, g6, g7, g8, g9, g10, g11, g12, g13, g14, g15, g16]) (ρ := []) (φ := []) (ψ := []) [none, none, none, none, none, none, none, none, none, none, none, none, none, none, none, none, none, none, none, none, none, none, none, none] [none, none, none, none, none, none, none, none, none, none, none, none, none, none, none, none, none] zyw_X_rowOf zyw_X_canBeTold zye_X_canBeTold (by decide +kernel) (zt_X_rowOf hr2) trivial trivial rfl rfl rfl rfl rfl rfl rfl) zd123_9 zxt30 rfl (by decide) (by decide) rfl ?_
  obtain ⟨r3, hr3, h⟩ := zi_bind h
  refine zv_cv hB (zv_emq (va2 := [.inr 1, .inl r1, .inl r2]) (F := [.inr 2, .inr 4, .inl f2, .inl f3, .inl f4, .inl f5, .inl f6, .inl f7, .inl f8, .inl f9, .inl f10, .inl f11, .inl f12, .inl f13, .inl f14, .inl f15, .inl f16, .inr 14, .inl f18, .inl f19, .inl f20, .inr 1000, .inr 1000, .inl f23]) (F' := [.inr 2, .inr 4, .inl r3.1, .inl r3.2.1, .inl f4, .inl f5, .inl r3.2.2.1, .inl f7, .inl f8, .inl f9, .inl f10, .inl f11, .inl r3.2.2.2.1, .inl r3.2.2.2.2.1, .inl f14, .inl r3.2.2.2.2.2.1, .inl f16, .inr 14, .inl f18, .inl f19, .inl f20, .inr 1000, .inr 1000, .inl f23]) (G := [g0, g1, g2, g3, g4, g5, g6, g7, g8, g9, g10, g11, g12, g13, g14, g15, g16]) (G' := [r3.2.2.2.2.2.2.1, g1, g2, g3, g4, g5, g6, g7, r3.2.2.2.2.2.2.2, g9, g10, g11, g12, g13, g14, g15, g16]) (ρ := [1, 2, 3, 4, 5, 6, 7, 8, 9, 10, 11, 12, 13]) (φ := [0, 1, 2, 3, 4, 5, 6, 7, 8, 9, 10, 11, 12, 13, 14, 15, 16]) (ψ := [0, 1, 2, 3, 4, 5, 6, 7, 8, 9]) [some 0, some 1, some 2, some 3, some 4, some 5, some 6, some 7, some 8, some 9, some 10, some 11, some 12, some 13, some 14, some 15, some 16, none, none, none, none, none, none, none] [some 0, some 1, some 2, some 3, some 4, some 5, some 6, some 7, some 8, some 9, none, none, none, none, none, none, none] zyw_View_look zyw_X_canBeTold zye_X_canBeTold (by decide +kernel) (zt_View_look hr3) ⟨⟨_, rfl, fun _ => rfl⟩, ⟨_, rfl, fun _ => rfl⟩, ⟨_, rfl, fun _ => rfl⟩, ⟨_, rfl, fun _ => rfl⟩, ⟨_, rfl, fun _ => rfl⟩, ⟨_, rfl, fun _ => rfl⟩, ⟨_, rfl, fun _ => rfl⟩, ⟨_, rfl, fun _ => rfl⟩, ⟨_, rfl, fun _ => rfl⟩, ⟨_, rfl, fun _ => rfl⟩, ⟨_, rfl, fun _ => rfl⟩, ⟨_, rfl, fun _ => rfl⟩, ⟨_, rfl, fun _ => rfl⟩, ⟨_, rfl, fun _ => rfl⟩, ⟨_, rfl, fun _ => rfl⟩, ⟨_, rfl, fun _ => rfl⟩, ⟨_, rfl, fun _ => rfl⟩, trivial⟩ ⟨rfl, rfl, rfl, rfl, rfl, rfl, rfl, rfl, rfl, rfl, trivial⟩ rfl rfl rfl rfl rfl rfl rfl) zd123_12 zxt85 rfl (by decide) (by decide) rfl ?_
  refine zv_ald hB zd123_15 rfl rfl rfl ?_
  refine zv_getr hB zd123_16 rfl ?_
  refine zv_getf hB zd123_19 rfl rfl (fun _ _ => ?_)
  obtain ⟨r4, hr4, h⟩ := zi_bind h
  refine zv_cs hB (zv_emq (va2 := [.inl r3.2.2.1]) (F := [.inr 2, .inr 4, .inl r3.1, .inl r3.2.1, .inl f4, .inl f5, .inl r3.2.2.1, .inl f7, .inl f8, .inl f9, .inl f10, .inl f11, .inl r3.2.2.2.1, .inl r3.2.2.2.2.1, .inl f14, .inl r3.2.2.2.2.2.1, .inl f16, .inr 14, .inl f18, .inl f19, .inl f20, .inr 1000, .inr 1000, .inl f23]) (F' := [.inr 2, .inr 4, .inl r3.1, .inl r3.2.1, .inl f4, .inl f5, .inl r3.2.2.1, .inl f7, .inl f8, .inl f9, .inl f10, .inl f11, .inl r3.2.2.2.1, .inl r3.2.2.2.2.1, .inl f14, .inl r3.2.2.2.2.2.1, .inl f16, .inr 14, .inl f18, .inl f19, .inl f20, .inr 1000, .inr 1000, .inl f23]) (G := [r3.2.2.2.2.2.2.1, g1, g2, g3, g4, g5, g6, g7, r3.2.2.2.2.2.2.2, g9, g10, g11, g12, g13, g14, g15, g16]) (G' := [r3.2.2.2.2.2.2.1, g1, g2, g3, g4, g5, g6, g7, r3.2.2.2.2.2.2.2, g9, g10, g11, g12, g13, g14, g15, g16]) (ρ := []) (φ := []) (ψ := []) [none, none, none, none, none, none, none, none, none, none, none, none, none, none, none, none, none, none, none, none, none, none, none, none] [none, none, none, none, none, none, none, none, none, none, none, none, none, none, none, none, none] zyw_Integer_bitCount zyw_X_canBeTold zye_X_canBeTold (by decide +kernel) (zt_Integer_bitCount hr4) trivial trivial rfl rfl rfl rfl rfl rfl rfl) zd123_22 zxt102 rfl (by decide) (by decide) rfl ?_
  refine zv_ald hB zd123_25 rfl rfl rfl ?_
  refine zv_getq hB zd123_26 rfl rfl rfl ?_
  refine zv_getf hB zd123_29 rfl rfl (fun _ _ => ?_)
  obtain ⟨r5, hr5, h⟩ := zi_bind h
  refine zv_cs hB (zv_emq (va2 := [.inl f18]) (F := [.inr 2, .inr 4, .inl r3.1, .inl r3.2.1, .inl f4, .inl f5, .inl r3.2.2.1, .inl f7, .inl f8, .inl f9, .inl f10, .inl f11, .inl r3.2.2.2.1, .inl r3.2.2.2.2.1, .inl f14, .inl r3.2.2.2.2.2.1, .inl f16, .inr 14, .inl f18, .inl f19, .inl f20, .inr 1000, .inr 1000, .inl f23]) (F' := [.inr 2, .inr 4, .inl r3.1, .inl r3.2.1, .inl f4, .inl f5, .inl r3.2.2.1, .inl f7, .inl f8, .inl f9, .inl f10, .inl f11, .inl r3.2.2.2.1, .inl r3.2.2.2.2.1, .inl f14, .inl r3.2.2.2.2.2.1, .inl f16, .inr 14, .inl f18, .inl f19, .inl f20, .inr 1000, .inr 1000, .inl f23]) (G := [r3.2.2.2.2.2.2.1, g1, g2, g3, g4, g5, g6, g7, r3.2.2.2.2.2.2.2, g9, g10, g11, g12, g13, g14, g15, g16]) (G' := [r3.2.2.2.2.2.2.1, g1, g2, g3, g4, g5, g6, g7, r3.2.2.2.2.2.2.2, g9, g10, g11, g12, g13, g14, g15, g16]) (ρ := []) (φ := []) (ψ := []) [none, none, none, none, none, none, none, none, none, none, none, none, none, none, none, none, none, none, none, none, none, none, none, none] [none, none, none, none, none, none, none, none, none, none, none, none, none, none, none, none, none] zyw_Integer_bitCount zyw_X_canBeTold zye_X_canBeTold (by decide +kernel) (zt_Integer_bitCount hr5) trivial trivial rfl rfl rfl rfl rfl rfl rfl) zd123_32 zxt102 rfl (by decide) (by decide) rfl ?_
  refine zv_cge hB zd123_35 rfl (fun hc6 => ?_) (fun hc6 => ?_)
  · rw [if_neg (Int.not_lt.mpr hc6)] at h
    refine zv_ald hB zd123_40 rfl rfl rfl ?_
    refine zv_getr hB zd123_41 rfl ?_
    obtain ⟨r7, hr7, h⟩ := zi_bind h
    refine zv_cv hB (zv_emq (va2 := [.inr 1]) (F := [.inr 2, .inr 4, .inl r3.1, .inl r3.2.1, .inl f4, .inl f5, .inl r3.2.2.1, .inl f7, .inl f8, .inl f9, .inl f10, .inl f11, .inl r3.2.2.2.1, .inl r3.2.2.2.2.1, .inl f14, .inl r3.2.2.2.2.2.1, .inl f16, .inr 14, .inl f18, .inl f19, .inl f20, .inr 1000, .inr 1000, .inl f23]) (F' := [.inr 2, .inr 4, .inl r7.1, .inl r7.2.1, .inl f4, .inl f5, .inl r3.2.2.1, .inl f7, .inl f8, .inl f9, .inl f10, .inl f11, .inl r3.2.2.2.1, .inl r3.2.2.2.2.1, .inl f14, .inl r7.2.2.1, .inl f16, .inr 14, .inl f18, .inl f19, .inl f20, .inr 1000, .inr 1000, .inl f23]) (G := [r3.2.2.2.2.2.2.1, g1, g2, g3, g4, g5, g6, g7, r3.2.2.2.2.2.2.2, g9, g10, g11, g12, g13, g14, g15, g16]) (G' := [r7.2.2.2.2.1, g1, g2, g3, g4, g5, g6, g7, r7.2.2.2.2.2.2.2, g9, r7.2.2.2.1, r7.2.2.2.2.2.1, r7.2.2.2.2.2.2.1, g13, g14, g15, g16]) (ρ := [1, 15, 2, 3, 4, 16, 17, 7, 6, 5, 8, 9, 10, 11, 12, 13]) (φ := [0, 19, 2, 3, 1, 4, 5, 6, 14, 15, 20]) (ψ := [10, 0, 11, 12, 3, 2, 1, 4, 5, 6, 7, 8, 9]) [some 0, some 4, some 2, some 3, some 5, some 6, some 7, none, none, none, none, none, none, none, some 8, some 9, none, none, none, some 1, some 10, none, none, none] [some 1, some 6, some 5, some 4, some 7, some 8, some 9, some 10, some 11, some 12, some 0, some 2, some 3, none, none, none, none] zyw_View_draw zyw_X_canBeTold zye_X_canBeTold (by decide +kernel) (zt_View_draw hr7) ⟨⟨_, rfl, fun _ => rfl⟩, ⟨_, rfl, fun _ => rfl⟩, ⟨_, rfl, fun _ => rfl⟩, ⟨_, rfl, fun _ => rfl⟩, ⟨_, rfl, fun _ => rfl⟩, ⟨_, rfl, fun _ => rfl⟩, ⟨_, rfl, fun _ => rfl⟩, ⟨_, rfl, fun _ => rfl⟩, ⟨_, rfl, fun _ => rfl⟩, ⟨_, rfl, fun _ => rfl⟩, ⟨_, rfl, fun _ => rfl⟩, trivial⟩ ⟨rfl, rfl, rfl, rfl, rfl, rfl, rfl, rfl, rfl, rfl, rfl, rfl, rfl, trivial⟩ rfl rfl rfl rfl rfl rfl rfl) zd123_44 zxt97 rfl (by decide) (by decide) rfl ?_
    refine zv_ald hB zd123_47 rfl rfl rfl ?_
    refine zv_getr hB zd123_48 rfl ?_
    refine zv_ald hB zd123_51 rfl rfl rfl ?_
    refine zv_getq hB zd123_52 rfl rfl rfl ?_
    refine zv_ald hB zd123_55 rfl rfl rfl ?_
    refine zv_getr hB zd123_56 rfl ?_
    refine zv_getf hB zd123_59 rfl rfl (fun _ _ => ?_)
    refine zv_ald hB zd123_62 rfl rfl rfl ?_
    refine zv_getr hB zd123_63 rfl ?_
    refine zv_getr hB zd123_66 rfl ?_
    refine zv_con hB zd123_69 rfl ?_
    obtain ⟨r8, hr8, h⟩ := zi_bind h
    refine zv_cv hB (zv_emq (va2 := [.inr 18, .inr 14, .inl r3.2.2.1, .inr 15, .inl 1]) (F := [.inr 2, .inr 4, .inl r7.1, .inl r7.2.1, .inl f4, .inl f5, .inl r3.2.2.1, .inl f7, .inl f8, .inl f9, .inl f10, .inl f11, .inl r3.2.2.2.1, .inl r3.2.2.2.2.1, .inl f14, .inl r7.2.2.1, .inl f16, .inr 14, .inl f18, .inl f19, .inl f20, .inr 1000, .inr 1000, .inl f23]) (F' := [.inr 2, .inr 4, .inl r7.1, .inl r7.2.1, .inl f4, .inl f5, .inl r3.2.2.1, .inl f7, .inl f8, .inl f9, .inl f10, .inl f11, .inl r3.2.2.2.1, .inl r3.2.2.2.2.1, .inl f14, .inl r7.2.2.1, .inl f16, .inr 14, .inl f18, .inl f19, .inl f20, .inr 14, .inr 15, .inl r8.2.1]) (G := [r7.2.2.2.2.1, g1, g2, g3, g4, g5, g6, g7, r7.2.2.2.2.2.2.2, g9, r7.2.2.2.1, r7.2.2.2.2.2.1, r7.2.2.2.2.2.2.1, g13, g14, g15, g16]) (G' := [r7.2.2.2.2.1, g1, g2, g3, g4, g5, g6, g7, r7.2.2.2.2.2.2.2, g9, r7.2.2.2.1, r7.2.2.2.2.2.1, r7.2.2.2.2.2.2.1, r8.2.2.1, g14, r8.2.2.2.1, r8.2.2.2.2]) (ρ := [18, 14, 15, 19, 20, 21, 22]) (φ := [21, 22, 23, 18]) (ψ := [10, 13, 14, 15, 16]) [none, none, none, none, none, none, none, none, none, none, none, none, none, none, none, none, none, none, some 3, none, none, some 0, some 1, some 2] [none, none, none, none, none, none, none, none, none, none, some 0, none, none, some 1, some 2, some 3, some 4] zyw_Matcher_countWays_24 zyw_X_canBeTold zye_X_canBeTold (by decide +kernel) (zt_Matcher_countWays_24 hr8) ⟨⟨_, rfl, fun (h : zv_is (.inr 1000)) => (Nat.lt_irrefl 1000 h).elim⟩, ⟨_, rfl, fun (h : zv_is (.inr 1000)) => (Nat.lt_irrefl 1000 h).elim⟩, ⟨_, rfl, fun _ => rfl⟩, ⟨_, rfl, fun _ => rfl⟩, trivial⟩ ⟨rfl, rfl, rfl, rfl, rfl, trivial⟩ rfl rfl rfl rfl rfl rfl rfl) zd123_70 zxt112 rfl (by decide) (by decide) rfl ?_
    refine zv_zle hB zd123_73 rfl (fun hc9 => ?_) (fun hc9 => ?_)
    · rw [if_neg (Int.not_lt.mpr hc9)] at h
      refine zv_con hB zd123_80 rfl ?_
      have hw := Option.some.inj h
      refine zv_wk hB (L' := [.inr 0, .inl x1]) (F' := [.inr 2, .inr 4, .inl r7.1, .inl r7.2.1, .inl f4, .inl f5, .inl r3.2.2.1, .inl f7, .inl f8, .inl f9, .inl f10, .inl f11, .inl r3.2.2.2.1, .inl r3.2.2.2.2.1, .inl f14, .inl r7.2.2.1, .inl f16, .inr 14, .inl f18, .inl f19, .inl f20, .inr 1000, .inr 1000, .inl r8.2.1]) ⟨fun _ => rfl, fun _ => rfl, trivial⟩ ⟨fun _ => rfl, fun _ => rfl, fun _ => rfl, fun _ => rfl, fun _ => rfl, fun _ => rfl, fun _ => rfl, fun _ => rfl, fun _ => rfl, fun _ => rfl, fun _ => rfl, fun _ => rfl, fun _ => rfl, fun _ => rfl, fun _ => rfl, fun _ => rfl, fun _ => rfl, fun _ => rfl, fun _ => rfl, fun _ => rfl, fun _ => rfl, fun (h : zv_is (.inr 1000)) => (Nat.lt_irrefl 1000 h).elim, fun (h : zv_is (.inr 1000)) => (Nat.lt_irrefl 1000 h).elim, fun _ => rfl, trivial⟩ ?_
      subst hw
      exact hret _ _ _ _ _ zd123_81 (by constructor <;> decide) ⟨rfl, rfl, rfl⟩
    · rw [if_pos hc9] at h
      refine zv_con hB zd123_76 rfl ?_
      refine zv_goto hB zd123_77 rfl ?_
      have hw := Option.some.inj h
      refine zv_wk hB (L' := [.inr 0, .inl x1]) (F' := [.inr 2, .inr 4, .inl r7.1, .inl r7.2.1, .inl f4, .inl f5, .inl r3.2.2.1, .inl f7, .inl f8, .inl f9, .inl f10, .inl f11, .inl r3.2.2.2.1, .inl r3.2.2.2.2.1, .inl f14, .inl r7.2.2.1, .inl f16, .inr 14, .inl f18, .inl f19, .inl f20, .inr 1000, .inr 1000, .inl r8.2.1]) ⟨fun _ => rfl, fun _ => rfl, trivial⟩ ⟨fun _ => rfl, fun _ => rfl, fun _ => rfl, fun _ => rfl, fun _ => rfl, fun _ => rfl, fun _ => rfl, fun _ => rfl, fun _ => rfl, fun _ => rfl, fun _ => rfl, fun _ => rfl, fun _ => rfl, fun _ => rfl, fun _ => rfl, fun _ => rfl, fun _ => rfl, fun _ => rfl, fun _ => rfl, fun _ => rfl, fun _ => rfl, fun (h : zv_is (.inr 1000)) => (Nat.lt_irrefl 1000 h).elim, fun (h : zv_is (.inr 1000)) => (Nat.lt_irrefl 1000 h).elim, fun _ => rfl, trivial⟩ ?_
      subst hw
      exact hret _ _ _ _ _ zd123_81 (by constructor <;> decide) ⟨rfl, rfl, rfl⟩
  · rw [if_pos hc6] at h
    refine zv_con hB zd123_38 rfl ?_
    have hw := Option.some.inj h
    subst hw
    exact hret _ _ _ _ _ zd123_39 (by constructor <;> decide) ⟨rfl, rfl, rfl⟩
end
section
/-! Methods as functions, and that they do what these do. -/
/-! X_where (I)I -/
-- names: 0 StarTales('arg', 0), 1 Tale(0, 0, 10), 2 View(0, 0, 12), 3 Sky(0, 0, 0), 4 Law(0, 0, 7), 5 (0, 24)(2, 7, 8), 6 (0, 13)(4, 4, 12), 7 (0, 24)(3, 1, 1), 8 (0, 24)(3, 1, 2), 9 (0, 24)(3, 1, 3), 10 (0, 14)(4, 4, 3), 11 (0, 14)(4, 4, 5), 12 (0, 14)(4, 4, 6), 13 (0, 200)(4, 4, 0), 14 (0, 40)(4, 4, 13), 15 (0, 200)(4, 4, 1), 16 (0, 24)(2, 7, 5), 17 (0, 24)(2, 7, 9), 18 Matcher(0, 0, 14), 19 (0, 72)(18, 8, 0), 20 (0, 8)(1, 6, 2), 21 (0, 24)(18, 8, 1), 22 (0, 8)(18, 8, 2)
-- fields: f0 = 0.telling_, f1 = 1.lines_, f2 = 0.ruling_, f3 = 2.sky_, f4 = 2.law_, f5 = 2.starsAsked_, f6 = 2.x_, f7 = 2.y_, f8 = 3.hour_, f9 = 3.night_, f10 = 2.shown_, f11 = 3.told_, f12 = 3.sightColumns_, f13 = 3.sightRows_, f14 = 3.clouds_, f15 = 4.tellsSeen_, f16 = 2.starsHold_, f17 = 4.clauses_, f18 = 4.answer_, f19 = 4.seenByPlace_, f20 = 1.names_, f21 = 4.tellsLines_, f22 = 4.linesByPlace_, f23 = 18.tale_, f24 = 18.joined_, f25 = 18.deadEnds_; arrays: g0 = 5, g1 = 6, g2 = 7, g3 = 8, g4 = 9, g5 = 10, g6 = 11, g7 = 12, g8 = 13, g9 = 14, g10 = 15, g11 = 16, g12 = 17, g13 = 19, g14 = 20, g15 = 21, g16 = 22; out: [('ret', None), ('f', 5), ('f', 6), ('f', 7), ('f', 10), ('f', 16), ('f', 18), ('f', 25), ('g', 0), ('g', 1), ('g', 9), ('g', 11), ('g', 12), ('g', 13), ('g', 15), ('g', 16)]
abbrev zy_X_where : zNL := (23, [(0, 0), (1, 6), (2, 7), (3, 1), (4, 4), (18, 8)], [(0, 0, 10, 0), (1, 6, 0, 1), (0, 0, 7, 2), (2, 7, 0, 3), (2, 7, 1, 4), (2, 7, 6, 5), (2, 7, 2, 6), (2, 7, 3, 7), (3, 1, 6, 8), (3, 1, 7, 9), (2, 7, 4, 10), (3, 1, 0, 11), (3, 1, 9, 12), (3, 1, 10, 13), (3, 1, 8, 14), (4, 4, 8, 15), (2, 7, 7, 16), (4, 4, 7, 17), (4, 4, 14, 18), (4, 4, 10, 19), (1, 6, 1, 20), (4, 4, 9, 21), (4, 4, 11, 22), (18, 8, 3, 23), (18, 8, 4, 24), (18, 8, 6, 25)], [(0, 0, 12, 2), (0, 0, 0, 3), (2, 7, 8, 5), (4, 4, 12, 6), (3, 1, 1, 7), (3, 1, 2, 8), (3, 1, 3, 9), (4, 4, 3, 10), (4, 4, 5, 11), (4, 4, 6, 12), (4, 4, 0, 13), (4, 4, 13, 14), (4, 4, 1, 15), (2, 7, 5, 16), (2, 7, 9, 17), (0, 0, 14, 18), (18, 8, 0, 19), (1, 6, 2, 20), (18, 8, 1, 21), (18, 8, 2, 22)], [(5, 0, 24, 0), (6, 0, 13, 1), (7, 0, 24, 2), (8, 0, 24, 3), (9, 0, 24, 4), (10, 0, 14, 5), (11, 0, 14, 6), (12, 0, 14, 7), (13, 0, 200, 8), (14, 0, 40, 9), (15, 0, 200, 10), (16, 0, 24, 11), (17, 0, 24, 12), (19, 0, 72, 13), (20, 0, 8, 14), (21, 0, 24, 15), (22, 0, 8, 16)])
theorem zyw_X_where : zv_wf zy_X_where = true := by decide +kernel
theorem zye_X_where : zv_ek2 zy_X_where = true := by decide +kernel
def zf_X_where_l0_b (x1 : Int) (f8 : Int) (f9 : Int) (f11 : Int) (f12 : Int) (f13 : Int) (f14 : Int) (f15 : Int) (f17 : Int) (f19 : Int) (f20 : Int) (f21 : Int) (f22 : Int) (g2 : (Int → Int)) (g3 : (Int → Int)) (g4 : (Int → Int)) (g5 : (Int → Int)) (g6 : (Int → Int)) (g7 : (Int → Int)) (g8 : (Int → Int)) (g10 : (Int → Int)) (g14 : (Int → Int)) (rec : Int → Int → Int → Int → Int → Int → Int → Int → Int → (Int → Int) → (Int → Int) → (Int → Int) → (Int → Int) → (Int → Int) → (Int → Int) → (Int → Int) → (Int → Int) → Option (((Int × Int × Int × Int × Int × Int × Int × Int × (Int → Int) × (Int → Int) × (Int → Int) × (Int → Int) × (Int → Int) × (Int → Int) × (Int → Int) × (Int → Int)) ⊕ (Int × Int × Int × Int × Int × Int × Int × Int × (Int → Int) × (Int → Int) × (Int → Int) × (Int → Int) × (Int → Int) × (Int → Int) × (Int → Int) × (Int → Int))))) (x2 : Int) (x3 : Int) (f5 : Int) (f6 : Int) (f7 : Int) (f10 : Int) (f16 : Int) (f18 : Int) (f25 : Int) (g0 : (Int → Int)) (g1 : (Int → Int)) (g9 : (Int → Int)) (g11 : (Int → Int)) (g12 : (Int → Int)) (g13 : (Int → Int)) (g15 : (Int → Int)) (g16 : (Int → Int)) : Option (((Int × Int × Int × Int × Int × Int × Int × Int × (Int → Int) × (Int → Int) × (Int → Int) × (Int → Int) × (Int → Int) × (Int → Int) × (Int → Int) × (Int → Int)) ⊕ (Int × Int × Int × Int × Int × Int × Int × Int × (Int → Int) × (Int → Int) × (Int → Int) × (Int → Int) × (Int → Int) × (Int → Int) × (Int → Int) × (Int → Int)))) := if x3 < 288 then ((zf_X_canBeTold x3 f6 f7 f8 f9 f10 f11 f12 f13 f14 f15 f5 f16 f17 f18 f19 f20 f21 f22 f25 g1 g2 g3 g4 g5 g6 g7 g8 g9 g10 g11 g0 g12 g13 g14 g15 g16).bind fun r6 => (if r6.1 = 0 then (rec x2 (zi_w (x3 + 1)) r6.2.2.2.2.1 r6.2.1 r6.2.2.1 r6.2.2.2.1 r6.2.2.2.2.2.1 r6.2.2.2.2.2.2.1 r6.2.2.2.2.2.2.2.1 r6.2.2.2.2.2.2.2.2.2.2.2.1 r6.2.2.2.2.2.2.2.2.1 r6.2.2.2.2.2.2.2.2.2.1 r6.2.2.2.2.2.2.2.2.2.2.1 r6.2.2.2.2.2.2.2.2.2.2.2.2.1 r6.2.2.2.2.2.2.2.2.2.2.2.2.2.1 r6.2.2.2.2.2.2.2.2.2.2.2.2.2.2.1 r6.2.2.2.2.2.2.2.2.2.2.2.2.2.2.2) else (if x1 = 1 then (some (.inr (x3, r6.2.2.2.2.1, r6.2.1, r6.2.2.1, r6.2.2.2.1, r6.2.2.2.2.2.1, r6.2.2.2.2.2.2.1, r6.2.2.2.2.2.2.2.1, r6.2.2.2.2.2.2.2.2.2.2.2.1, r6.2.2.2.2.2.2.2.2.1, r6.2.2.2.2.2.2.2.2.2.1, r6.2.2.2.2.2.2.2.2.2.2.1, r6.2.2.2.2.2.2.2.2.2.2.2.2.1, r6.2.2.2.2.2.2.2.2.2.2.2.2.2.1, r6.2.2.2.2.2.2.2.2.2.2.2.2.2.2.1, r6.2.2.2.2.2.2.2.2.2.2.2.2.2.2.2))) else (rec (zi_w (x2 + 1)) (zi_w (x3 + 1)) r6.2.2.2.2.1 r6.2.1 r6.2.2.1 r6.2.2.2.1 r6.2.2.2.2.2.1 r6.2.2.2.2.2.2.1 r6.2.2.2.2.2.2.2.1 r6.2.2.2.2.2.2.2.2.2.2.2.1 r6.2.2.2.2.2.2.2.2.1 r6.2.2.2.2.2.2.2.2.2.1 r6.2.2.2.2.2.2.2.2.2.2.1 r6.2.2.2.2.2.2.2.2.2.2.2.2.1 r6.2.2.2.2.2.2.2.2.2.2.2.2.2.1 r6.2.2.2.2.2.2.2.2.2.2.2.2.2.2.1 r6.2.2.2.2.2.2.2.2.2.2.2.2.2.2.2)))) else (some (.inl (x2, f5, f6, f7, f10, f16, f18, f25, g0, g1, g9, g11, g12, g13, g15, g16)))
def zf_X_where_l0 (x1 : Int) (f8 : Int) (f9 : Int) (f11 : Int) (f12 : Int) (f13 : Int) (f14 : Int) (f15 : Int) (f17 : Int) (f19 : Int) (f20 : Int) (f21 : Int) (f22 : Int) (g2 : (Int → Int)) (g3 : (Int → Int)) (g4 : (Int → Int)) (g5 : (Int → Int)) (g6 : (Int → Int)) (g7 : (Int → Int)) (g8 : (Int → Int)) (g10 : (Int → Int)) (g14 : (Int → Int)) : Nat → Int → Int → Int → Int → Int → Int → Int → Int → Int → (Int → Int) → (Int → Int) → (Int → Int) → (Int → Int) → (Int → Int) → (Int → Int) → (Int → Int) → (Int → Int) → Option (((Int × Int × Int × Int × Int × Int × Int × Int × (Int → Int) × (Int → Int) × (Int → Int) × (Int → Int) × (Int → Int) × (Int → Int) × (Int → Int) × (Int → Int)) ⊕ (Int × Int × Int × Int × Int × Int × Int × Int × (Int → Int) × (Int → Int) × (Int → Int) × (Int → Int) × (Int → Int) × (Int → Int) × (Int → Int) × (Int → Int))))
  | 0, _, _, _, _, _, _, _, _, _, _, _, _, _, _, _, _, _ => none
  | n + 1, x2, x3, f5, f6, f7, f10, f16, f18, f25, g0, g1, g9, g11, g12, g13, g15, g16 => zf_X_where_l0_b x1 f8 f9 f11 f12 f13 f14 f15 f17 f19 f20 f21 f22 g2 g3 g4 g5 g6 g7 g8 g10 g14 (zf_X_where_l0 x1 f8 f9 f11 f12 f13 f14 f15 f17 f19 f20 f21 f22 g2 g3 g4 g5 g6 g7 g8 g10 g14 n) x2 x3 f5 f6 f7 f10 f16 f18 f25 g0 g1 g9 g11 g12 g13 g15 g16
def zf_X_where (x1 : Int) (f1 : Int) (f5 : Int) (f6 : Int) (f7 : Int) (f8 : Int) (f9 : Int) (f10 : Int) (f11 : Int) (f12 : Int) (f13 : Int) (f14 : Int) (f15 : Int) (f16 : Int) (f17 : Int) (f18 : Int) (f19 : Int) (f20 : Int) (f21 : Int) (f22 : Int) (f25 : Int) (g0 : (Int → Int)) (g1 : (Int → Int)) (g2 : (Int → Int)) (g3 : (Int → Int)) (g4 : (Int → Int)) (g5 : (Int → Int)) (g6 : (Int → Int)) (g7 : (Int → Int)) (g8 : (Int → Int)) (g9 : (Int → Int)) (g10 : (Int → Int)) (g11 : (Int → Int)) (g12 : (Int → Int)) (g13 : (Int → Int)) (g14 : (Int → Int)) (g15 : (Int → Int)) (g16 : (Int → Int)) : Option (Int × Int × Int × Int × Int × Int × Int × Int × (Int → Int) × (Int → Int) × (Int → Int) × (Int → Int) × (Int → Int) × (Int → Int) × (Int → Int) × (Int → Int)) := (zf_X_isWithin x1 0 1).bind fun r1 => (if r1 = 0 then (some ((-1), f5, f6, f7, f10, f16, f18, f25, g0, g1, g9, g11, g12, g13, g15, g16)) else (if f1 = 0 then (some ((-1), f5, f6, f7, f10, f16, f18, f25, g0, g1, g9, g11, g12, g13, g15, g16)) else ((zf_View_open f5 g0).bind fun r4 => ((zf_X_where_l0 x1 f8 f9 f11 f12 f13 f14 f15 f17 f19 f20 f21 f22 g2 g3 g4 g5 g6 g7 g8 g10 g14 zi_fu 0 0 r4.1 f6 f7 f10 f16 f18 f25 r4.2 g1 g9 g11 g12 g13 g15 g16).bind fun q9 => Sum.elim (fun e10 => (if x1 = 1 then (some ((-2), e10.2.1, e10.2.2.1, e10.2.2.2.1, e10.2.2.2.2.1, e10.2.2.2.2.2.1, e10.2.2.2.2.2.2.1, e10.2.2.2.2.2.2.2.1, e10.2.2.2.2.2.2.2.2.1, e10.2.2.2.2.2.2.2.2.2.1, e10.2.2.2.2.2.2.2.2.2.2.1, e10.2.2.2.2.2.2.2.2.2.2.2.1, e10.2.2.2.2.2.2.2.2.2.2.2.2.1, e10.2.2.2.2.2.2.2.2.2.2.2.2.2.1, e10.2.2.2.2.2.2.2.2.2.2.2.2.2.2.1, e10.2.2.2.2.2.2.2.2.2.2.2.2.2.2.2)) else (some (e10.1, e10.2.1, e10.2.2.1, e10.2.2.2.1, e10.2.2.2.2.1, e10.2.2.2.2.2.1, e10.2.2.2.2.2.2.1, e10.2.2.2.2.2.2.2.1, e10.2.2.2.2.2.2.2.2.1, e10.2.2.2.2.2.2.2.2.2.1, e10.2.2.2.2.2.2.2.2.2.2.1, e10.2.2.2.2.2.2.2.2.2.2.2.1, e10.2.2.2.2.2.2.2.2.2.2.2.2.1, e10.2.2.2.2.2.2.2.2.2.2.2.2.2.1, e10.2.2.2.2.2.2.2.2.2.2.2.2.2.2.1, e10.2.2.2.2.2.2.2.2.2.2.2.2.2.2.2)))) (fun w12 => some w12) q9))))
theorem zd122_0 : decode zxm122.2.1 0 = .ok (.iload_n 1, 1) := by decide +kernel
theorem zd122_1 : decode zxm122.2.1 1 = .ok (.iconst 0, 1) := by decide +kernel
theorem zd122_2 : decode zxm122.2.1 2 = .ok (.iconst 1, 1) := by decide +kernel
theorem zd122_3 : decode zxm122.2.1 3 = .ok (.invokestatic 126, 3) := by decide +kernel
theorem zd122_6 : decode zxm122.2.1 6 = .ok (.ifCond .eq 13, 3) := by decide +kernel
theorem zd122_9 : decode zxm122.2.1 9 = .ok (.aload_n 0, 1) := by decide +kernel
theorem zd122_10 : decode zxm122.2.1 10 = .ok (.getfield 69, 3) := by decide +kernel
theorem zd122_13 : decode zxm122.2.1 13 = .ok (.getfield 253, 3) := by decide +kernel
theorem zd122_16 : decode zxm122.2.1 16 = .ok (.ifCond .ne 5, 3) := by decide +kernel
theorem zd122_19 : decode zxm122.2.1 19 = .ok (.iconst (-1), 1) := by decide +kernel
theorem zd122_20 : decode zxm122.2.1 20 = .ok (.ireturn, 1) := by decide +kernel
theorem zd122_21 : decode zxm122.2.1 21 = .ok (.aload_n 0, 1) := by decide +kernel
theorem zd122_22 : decode zxm122.2.1 22 = .ok (.getfield 81, 3) := by decide +kernel
theorem zd122_25 : decode zxm122.2.1 25 = .ok (.aload_n 0, 1) := by decide +kernel
theorem zd122_26 : decode zxm122.2.1 26 = .ok (.getfield 10, 3) := by decide +kernel
theorem zd122_29 : decode zxm122.2.1 29 = .ok (.aload_n 0, 1) := by decide +kernel
theorem zd122_30 : decode zxm122.2.1 30 = .ok (.getfield 46, 3) := by decide +kernel
theorem zd122_33 : decode zxm122.2.1 33 = .ok (.invokevirtual 211, 3) := by decide +kernel
theorem zd122_36 : decode zxm122.2.1 36 = .ok (.iconst 0, 1) := by decide +kernel
theorem zd122_37 : decode zxm122.2.1 37 = .ok (.istore_n 2, 1) := by decide +kernel
theorem zd122_38 : decode zxm122.2.1 38 = .ok (.iconst 0, 1) := by decide +kernel
theorem zd122_39 : decode zxm122.2.1 39 = .ok (.istore_n 3, 1) := by decide +kernel
theorem zd122_40 : decode zxm122.2.1 40 = .ok (.iload_n 3, 1) := by decide +kernel
theorem zd122_41 : decode zxm122.2.1 41 = .ok (.sipush 288, 3) := by decide +kernel
theorem zd122_44 : decode zxm122.2.1 44 = .ok (.if_icmp .ge 27, 3) := by decide +kernel
theorem zd122_47 : decode zxm122.2.1 47 = .ok (.aload_n 0, 1) := by decide +kernel
theorem zd122_48 : decode zxm122.2.1 48 = .ok (.iload_n 3, 1) := by decide +kernel
theorem zd122_49 : decode zxm122.2.1 49 = .ok (.invokevirtual 270, 3) := by decide +kernel
theorem zd122_52 : decode zxm122.2.1 52 = .ok (.ifCond .eq 13, 3) := by decide +kernel
theorem zd122_55 : decode zxm122.2.1 55 = .ok (.iload_n 1, 1) := by decide +kernel
theorem zd122_56 : decode zxm122.2.1 56 = .ok (.iconst 1, 1) := by decide +kernel
theorem zd122_57 : decode zxm122.2.1 57 = .ok (.if_icmp .ne 5, 3) := by decide +kernel
theorem zd122_60 : decode zxm122.2.1 60 = .ok (.iload_n 3, 1) := by decide +kernel
theorem zd122_61 : decode zxm122.2.1 61 = .ok (.ireturn, 1) := by decide +kernel
theorem zd122_62 : decode zxm122.2.1 62 = .ok (.iinc 2 1, 3) := by decide +kernel
theorem zd122_65 : decode zxm122.2.1 65 = .ok (.iinc 3 1, 3) := by decide +kernel
theorem zd122_68 : decode zxm122.2.1 68 = .ok (.goto (-28), 3) := by decide +kernel
theorem zd122_71 : decode zxm122.2.1 71 = .ok (.iload_n 1, 1) := by decide +kernel
theorem zd122_72 : decode zxm122.2.1 72 = .ok (.iconst 1, 1) := by decide +kernel
theorem zd122_73 : decode zxm122.2.1 73 = .ok (.if_icmp .ne 8, 3) := by decide +kernel
theorem zd122_76 : decode zxm122.2.1 76 = .ok (.bipush (-2), 2) := by decide +kernel
theorem zd122_78 : decode zxm122.2.1 78 = .ok (.goto 4, 3) := by decide +kernel
theorem zd122_81 : decode zxm122.2.1 81 = .ok (.iload_n 2, 1) := by decide +kernel
theorem zd122_82 : decode zxm122.2.1 82 = .ok (.ireturn, 1) := by decide +kernel
theorem zt_X_where {x1 : Int} {f1 : Int} {f5 : Int} {f6 : Int} {f7 : Int} {f8 : Int} {f9 : Int} {f10 : Int} {f11 : Int} {f12 : Int} {f13 : Int} {f14 : Int} {f15 : Int} {f16 : Int} {f17 : Int} {f18 : Int} {f19 : Int} {f20 : Int} {f21 : Int} {f22 : Int} {f25 : Int} {g0 : (Int → Int)} {g1 : (Int → Int)} {g2 : (Int → Int)} {g3 : (Int → Int)} {g4 : (Int → Int)} {g5 : (Int → Int)} {g6 : (Int → Int)} {g7 : (Int → Int)} {g8 : (Int → Int)} {g9 : (Int → Int)} {g10 : (Int → Int)} {g11 : (Int → Int)} {g12 : (Int → Int)} {g13 : (Int → Int)} {g14 : (Int → Int)} {g15 : (Int → Int)} {g16 : (Int → Int)} {o : Int × Int × Int × Int × Int × Int × Int × Int × (Int → Int) × (Int → Int) × (Int → Int) × (Int → Int) × (Int → Int) × (Int → Int) × (Int → Int) × (Int → Int)} (h : zf_X_where x1 f1 f5 f6 f7 f8 f9 f10 f11 f12 f13 f14 f15 f16 f17 f18 f19 f20 f21 f22 f25 g0 g1 g2 g3 g4 g5 g6 g7 g8 g9 g10 g11 g12 g13 g14 g15 g16 = some o) : zv_Fn z_TB z_cl z_KX zy_X_where zxm122 (14, 840) [.inr 0, .inl x1] [.inr 1, .inl f1, .inr 4, .inr 1000, .inr 1000, .inl f5, .inl f6, .inl f7, .inl f8, .inl f9, .inl f10, .inl f11, .inl f12, .inl f13, .inl f14, .inl f15, .inl f16, .inl f17, .inl f18, .inl f19, .inl f20, .inl f21, .inl f22, .inr 1000, .inr 1000, .inl f25] [g0, g1, g2, g3, g4, g5, g6, g7, g8, g9, g10, g11, g12, g13, g14, g15, g16] (some o.1) [.inr 1, .inl f1, .inr 4, .inr 1000, .inr 1000, .inl o.2.1, .inl o.2.2.1, .inl o.2.2.2.1, .inl f8, .inl f9, .inl o.2.2.2.2.1, .inl f11, .inl f12, .inl f13, .inl f14, .inl f15, .inl o.2.2.2.2.2.1, .inl f17, .inl o.2.2.2.2.2.2.1, .inl f19, .inl f20, .inl f21, .inl f22, .inr 1000, .inr 1000, .inl o.2.2.2.2.2.2.2.1] [o.2.2.2.2.2.2.2.2.1, o.2.2.2.2.2.2.2.2.2.1, g2, g3, g4, g5, g6, g7, g8, o.2.2.2.2.2.2.2.2.2.2.1, g10, o.2.2.2.2.2.2.2.2.2.2.2.1, o.2.2.2.2.2.2.2.2.2.2.2.2.1, o.2.2.2.2.2.2.2.2.2.2.2.2.2.1, g14, o.2.2.2.2.2.2.2.2.2.2.2.2.2.2.1, o.2.2.2.2.2.2.2.2.2.2.2.2.2.2.2] := zv_meth (K := (z_KF0, z_KC0, z_KL0, z_KT0, [], [], [], none)) (FT := z_FT) (MT := z_MT) (n := 2) zxp122 (z_ks0 _ (fun _ h => List.mem_cons_of_mem _ h) _ _ _ _ (fun j r h _ => by cases h)) (fun _ _ => zs_KX_p) zyw_X_where (fun va F G h => by obtain ⟨rfl, _⟩ := h; rfl) (fun va F G h => by obtain ⟨rfl, _⟩ := h; rfl) rfl fun good va F G hB hret hvret hP => by
  obtain ⟨rfl, rfl, rfl⟩ := hP
  have l0 : ∀ (n : Nat) (x1 : Int) (x2 : Int) (x3 : Int) (f5 : Int) (f6 : Int) (f7 : Int) (f10 : Int) (f16 : Int) (f18 : Int) (f25 : Int) (g0 : (Int → Int)) (g1 : (Int → Int)) (g9 : (Int → Int)) (g11 : (Int → Int)) (g12 : (Int → Int)) (g13 : (Int → Int)) (g15 : (Int → Int)) (g16 : (Int → Int)) (q : ((Int × Int × Int × Int × Int × Int × Int × Int × (Int → Int) × (Int → Int) × (Int → Int) × (Int → Int) × (Int → Int) × (Int → Int) × (Int → Int) × (Int → Int)) ⊕ (Int × Int × Int × Int × Int × Int × Int × Int × (Int → Int) × (Int → Int) × (Int → Int) × (Int → Int) × (Int → Int) × (Int → Int) × (Int → Int) × (Int → Int)))), zf_X_where_l0 x1 f8 f9 f11 f12 f13 f14 f15 f17 f19 f20 f21 f22 g2 g3 g4 g5 g6 g7 g8 g10 g14 n x2 x3 f5 f6 f7 f10 f16 f18 f25 g0 g1 g9 g11 g12 g13 g15 g16 = some q → (Sum.elim (fun e : Int × Int × Int × Int × Int × Int × Int × Int × (Int → Int) × (Int → Int) × (Int → Int) × (Int → Int) × (Int → Int) × (Int → Int) × (Int → Int) × (Int → Int) => good 71 [.inr 1000, .inl x1, .inl e.1, .inr 1000] [] [.inr 1, .inl f1, .inr 4, .inr 3, .inr 4, .inl e.2.1, .inl e.2.2.1, .inl e.2.2.2.1, .inl f8, .inl f9, .inl e.2.2.2.2.1, .inl f11, .inl f12, .inl f13, .inl f14, .inl f15, .inl e.2.2.2.2.2.1, .inl f17, .inl e.2.2.2.2.2.2.1, .inl f19, .inl f20, .inl f21, .inl f22, .inr 1000, .inr 1000, .inl e.2.2.2.2.2.2.2.1] [e.2.2.2.2.2.2.2.2.1, e.2.2.2.2.2.2.2.2.2.1, g2, g3, g4, g5, g6, g7, g8, e.2.2.2.2.2.2.2.2.2.2.1, g10, e.2.2.2.2.2.2.2.2.2.2.2.1, e.2.2.2.2.2.2.2.2.2.2.2.2.1, e.2.2.2.2.2.2.2.2.2.2.2.2.2.1, g14, e.2.2.2.2.2.2.2.2.2.2.2.2.2.2.1, e.2.2.2.2.2.2.2.2.2.2.2.2.2.2.2]) (fun w : Int × Int × Int × Int × Int × Int × Int × Int × (Int → Int) × (Int → Int) × (Int → Int) × (Int → Int) × (Int → Int) × (Int → Int) × (Int → Int) × (Int → Int) => w = o) q) → good 40 [.inr 0, .inl x1, .inl x2, .inl x3] [] [.inr 1, .inl f1, .inr 4, .inr 3, .inr 4, .inl f5, .inl f6, .inl f7, .inl f8, .inl f9, .inl f10, .inl f11, .inl f12, .inl f13, .inl f14, .inl f15, .inl f16, .inl f17, .inl f18, .inl f19, .inl f20, .inl f21, .inl f22, .inr 1000, .inr 1000, .inl f25] [g0, g1, g2, g3, g4, g5, g6, g7, g8, g9, g10, g11, g12, g13, g14, g15, g16] := by
    intro n
    induction n with
    | zero => intro x1 x2 x3 f5 f6 f7 f10 f16 f18 f25 g0 g1 g9 g11 g12 g13 g15 g16 q h; exact absurd (show none = some q from h) (fun h => by cases h)
    | succ n ih =>
      intro x1 x2 x3 f5 f6 f7 f10 f16 f18 f25 g0 g1 g9 g11 g12 g13 g15 g16 q h hK
      replace h : zf_X_where_l0_b x1 f8 f9 f11 f12 f13 f14 f15 f17 f19 f20 f21 f22 g2 g3 g4 g5 g6 g7 g8 g10 g14 (zf_X_where_l0 x1 f8 f9 f11 f12 f13 f14 f15 f17 f19 f20 f21 f22 g2 g3 g4 g5 g6 g7 g8 g10 g14 n) x2 x3 f5 f6 f7 f10 f16 f18 f25 g0 g1 g9 g11 g12 g13 g15 g16 = some q := h
      unfold zf_X_where_l0_b at h
      refine zv_ild hB zd122_40 rfl rfl ?_
      refine zv_con hB zd122_41 rfl ?_
      refine zv_cge hB zd122_44 rfl (fun hc5 => ?_) (fun hc5 => ?_)
      · rw [if_neg (Int.not_lt.mpr hc5)] at h
        have hq := Option.some.inj h
        subst hq
        refine zv_wk hB (L' := [.inr 1000, .inl x1, .inl x2, .inr 1000]) (F' := [.inr 1, .inl f1, .inr 4, .inr 3, .inr 4, .inl f5, .inl f6, .inl f7, .inl f8, .inl f9, .inl f10, .inl f11, .inl f12, .inl f13, .inl f14, .inl f15, .inl f16, .inl f17, .inl f18, .inl f19, .inl f20, .inl f21, .inl f22, .inr 1000, .inr 1000, .inl f25]) ⟨fun (h : zv_is (.inr 1000)) => (Nat.lt_irrefl 1000 h).elim, fun _ => rfl, fun _ => rfl, fun (h : zv_is (.inr 1000)) => (Nat.lt_irrefl 1000 h).elim, trivial⟩ ⟨fun _ => rfl, fun _ => rfl, fun _ => rfl, fun _ => rfl, fun _ => rfl, fun _ => rfl, fun _ => rfl, fun _ => rfl, fun _ => rfl, fun _ => rfl, fun _ => rfl, fun _ => rfl, fun _ => rfl, fun _ => rfl, fun _ => rfl, fun _ => rfl, fun _ => rfl, fun _ => rfl, fun _ => rfl, fun _ => rfl, fun _ => rfl, fun _ => rfl, fun _ => rfl, fun (h : zv_is (.inr 1000)) => (Nat.lt_irrefl 1000 h).elim, fun (h : zv_is (.inr 1000)) => (Nat.lt_irrefl 1000 h).elim, fun _ => rfl, trivial⟩ ?_
        exact hK
      · rw [if_pos hc5] at h
        refine zv_ald hB zd122_47 rfl rfl rfl ?_
        refine zv_ild hB zd122_48 rfl rfl ?_
        obtain ⟨r6, hr6, h⟩ := zi_bind h
        refine zv_cv hB (zv_emq (va2 := [.inr 0, .inl x3]) (F := [.inr 1, .inl f1, .inr 4, .inr 3, .inr 4, .inl f5, .inl f6, .inl f7, .inl f8, .inl f9, .inl f10, .inl f11, .inl f12, .inl f13, .inl f14, .inl f15, .inl f16, .inl f17, .inl f18, .inl f19, .inl f20, .inl f21, .inl f22, .inr 1000, .inr 1000, .inl f25]) (F' := [.inr 1, .inl f1, .inr 4, .inr 3, .inr 4, .inl r6.2.2.2.2.1, .inl r6.2.1, .inl r6.2.2.1, .inl f8, .inl f9, .inl r6.2.2.2.1, .inl f11, .inl f12, .inl f13, .inl f14, .inl f15, .inl r6.2.2.2.2.2.1, .inl f17, .inl r6.2.2.2.2.2.2.1, .inl f19, .inl f20, .inl f21, .inl f22, .inr 1000, .inr 1000, .inl r6.2.2.2.2.2.2.2.1]) (G := [g0, g1, g2, g3, g4, g5, g6, g7, g8, g9, g10, g11, g12, g13, g14, g15, g16]) (G' := [r6.2.2.2.2.2.2.2.2.2.2.2.1, r6.2.2.2.2.2.2.2.2.1, g2, g3, g4, g5, g6, g7, g8, r6.2.2.2.2.2.2.2.2.2.1, g10, r6.2.2.2.2.2.2.2.2.2.2.1, r6.2.2.2.2.2.2.2.2.2.2.2.2.1, r6.2.2.2.2.2.2.2.2.2.2.2.2.2.1, g14, r6.2.2.2.2.2.2.2.2.2.2.2.2.2.2.1, r6.2.2.2.2.2.2.2.2.2.2.2.2.2.2.2]) (ρ := [0, 2, 4, 6, 3, 7, 8, 9, 10, 11, 12, 13, 14, 15, 1, 16, 5, 17, 18, 19, 20, 21, 22]) (φ := [4, 3, 6, 7, 8, 9, 10, 11, 12, 13, 14, 15, 5, 16, 17, 18, 19, 0, 20, 21, 22, 23, 24, 25]) (ψ := [1, 2, 3, 4, 5, 6, 7, 8, 9, 10, 11, 0, 12, 13, 14, 15, 16]) [some 17, none, none, some 1, some 0, some 12, some 2, some 3, some 4, some 5, some 6, some 7, some 8, some 9, some 10, some 11, some 13, some 14, some 15, some 16, some 18, some 19, some 20, some 21, some 22, some 23] [some 11, some 0, some 1, some 2, some 3, some 4, some 5, some 6, some 7, some 8, some 9, some 10, some 12, some 13, some 14, some 15, some 16] zyw_X_canBeTold zyw_X_where zye_X_where (by decide +kernel) (zt_X_canBeTold hr6) ⟨⟨_, rfl, fun _ => rfl⟩, ⟨_, rfl, fun _ => rfl⟩, ⟨_, rfl, fun _ => rfl⟩, ⟨_, rfl, fun _ => rfl⟩, ⟨_, rfl, fun _ => rfl⟩, ⟨_, rfl, fun _ => rfl⟩, ⟨_, rfl, fun _ => rfl⟩, ⟨_, rfl, fun _ => rfl⟩, ⟨_, rfl, fun _ => rfl⟩, ⟨_, rfl, fun _ => rfl⟩, ⟨_, rfl, fun _ => rfl⟩, ⟨_, rfl, fun _ => rfl⟩, ⟨_, rfl, fun _ => rfl⟩, ⟨_, rfl, fun _ => rfl⟩, ⟨_, rfl, fun _ => rfl⟩, ⟨_, rfl, fun _ => rfl⟩, ⟨_, rfl, fun _ => rfl⟩, ⟨_, rfl, fun _ => rfl⟩, ⟨_, rfl, fun _ => rfl⟩, ⟨_, rfl, fun _ => rfl⟩, ⟨_, rfl, fun _ => rfl⟩, ⟨_, rfl, fun (h : zv_is (.inr 1000)) => (Nat.lt_irrefl 1000 h).elim⟩, ⟨_, rfl, fun (h : zv_is (.inr 1000)) => (Nat.lt_irrefl 1000 h).elim⟩, ⟨_, rfl, fun _ => rfl⟩, trivial⟩ ⟨rfl, rfl, rfl, rfl, rfl, rfl, rfl, rfl, rfl, rfl, rfl, rfl, rfl, rfl, rfl, rfl, rfl, trivial⟩ rfl rfl rfl rfl rfl rfl rfl) zd122_49 zxt123 rfl (by decide) (by decide) rfl ?_
        refine zv_zeq hB zd122_52 rfl (fun hc7 => ?_) (fun hc7 => ?_)
        · rw [if_pos hc7] at h
          refine zv_iincw hB zd122_65 rfl rfl ?_
          refine zv_goto hB zd122_68 rfl ?_
          exact ih _ _ _ _ _ _ _ _ _ _ _ _ _ _ _ _ _ _ q h hK
        · rw [if_neg hc7] at h
          refine zv_ild hB zd122_55 rfl rfl ?_
          refine zv_con hB zd122_56 rfl ?_
          refine zv_cne hB zd122_57 rfl (fun hc8 => ?_) (fun hc8 => ?_)
          · rw [if_neg hc8] at h
            refine zv_iincw hB zd122_62 rfl rfl ?_
            refine zv_iincw hB zd122_65 rfl rfl ?_
            refine zv_goto hB zd122_68 rfl ?_
            exact ih _ _ _ _ _ _ _ _ _ _ _ _ _ _ _ _ _ _ q h hK
          · rw [if_pos hc8] at h
            refine zv_ild hB zd122_60 rfl rfl ?_
            have hw : (x3, r6.2.2.2.2.1, r6.2.1, r6.2.2.1, r6.2.2.2.1, r6.2.2.2.2.2.1, r6.2.2.2.2.2.2.1, r6.2.2.2.2.2.2.2.1, r6.2.2.2.2.2.2.2.2.2.2.2.1, r6.2.2.2.2.2.2.2.2.1, r6.2.2.2.2.2.2.2.2.2.1, r6.2.2.2.2.2.2.2.2.2.2.1, r6.2.2.2.2.2.2.2.2.2.2.2.2.1, r6.2.2.2.2.2.2.2.2.2.2.2.2.2.1, r6.2.2.2.2.2.2.2.2.2.2.2.2.2.2.1, r6.2.2.2.2.2.2.2.2.2.2.2.2.2.2.2) = o := zi_rk (Option.some.inj h) hK
            refine zv_wk hB (L' := [.inr 0, .inl x1, .inl x2, .inl x3]) (F' := [.inr 1, .inl f1, .inr 4, .inr 1000, .inr 1000, .inl r6.2.2.2.2.1, .inl r6.2.1, .inl r6.2.2.1, .inl f8, .inl f9, .inl r6.2.2.2.1, .inl f11, .inl f12, .inl f13, .inl f14, .inl f15, .inl r6.2.2.2.2.2.1, .inl f17, .inl r6.2.2.2.2.2.2.1, .inl f19, .inl f20, .inl f21, .inl f22, .inr 1000, .inr 1000, .inl r6.2.2.2.2.2.2.2.1]) ⟨fun _ => rfl, fun _ => rfl, fun _ => rfl, fun _ => rfl, trivial⟩ ⟨fun _ => rfl, fun _ => rfl, fun _ => rfl, fun (h : zv_is (.inr 1000)) => (Nat.lt_irrefl 1000 h).elim, fun (h : zv_is (.inr 1000)) => (Nat.lt_irrefl 1000 h).elim, fun _ => rfl, fun _ => rfl, fun _ => rfl, fun _ => rfl, fun _ => rfl, fun _ => rfl, fun _ => rfl, fun _ => rfl, fun _ => rfl, fun _ => rfl, fun _ => rfl, fun _ => rfl, fun _ => rfl, fun _ => rfl, fun _ => rfl, fun _ => rfl, fun _ => rfl, fun _ => rfl, fun (h : zv_is (.inr 1000)) => (Nat.lt_irrefl 1000 h).elim, fun (h : zv_is (.inr 1000)) => (Nat.lt_irrefl 1000 h).elim, fun _ => rfl, trivial⟩ ?_
            subst hw
            exact hret _ _ _ _ _ zd122_61 (by trivial) ⟨rfl, rfl, rfl⟩
  unfold zf_X_where at h
  refine zv_ild hB zd122_0 rfl rfl ?_
  refine zv_con hB zd122_1 rfl ?_
  refine zv_con hB zd122_2 rfl ?_
  obtain ⟨r1, hr1, h⟩ := zi_bind h
  refine zv_cs hB (zv_emq (va2 := [.inl x1, .inl 0, .inl 1]) (F := [.inr 1, .inl f1, .inr 4, .inr 1000, .inr 1000, .inl f5, .inl f6, .inl f7, .inl f8, .inl f9, .inl f10, .inl f11, .inl f12, .inl f13, .inl f14, .inl f15, .inl f16, .inl f17, .inl f18, .inl f19, .inl f20, .inl f21, .inl f22, .inr 1000, .inr 1000, .inl f25]) (F' := [.inr 1, .inl f1, .inr 4, .inr 1000, .inr 1000, .inl f5, .inl f6, .inl f7, .inl f8, .inl f9, .inl f10, .inl f11, .inl f12, .inl f13, .inl f14, .inl f15, .inl f16, .inl f17, .inl f18, .inl f19, .inl f20, .inl f21, .inl f22, .inr 1000, .inr 1000, .inl f25]) (G := [g0, g1, g2, g3, g4, g5, g6, g7, g8, g9, g10, g11, g12, g13, g14, g15, g16]) (G' := [g0, g1, g2, g3, g4, g5, g6, g7, g8, g9, g10, g11, g12, g13, g14, g15, g16]) (ρ := []) (φ := []) (ψ := []) [none, none, none, none, none, none, none, none, none, none, none, none, none, none, none, none, none, none, none, none, none, none, none, none, none, none] [none, none, none, none, none, none, none, none, none, none, none, none, none, none, none, none, none] zyw_X_isWithin zyw_X_where zye_X_where (by decide +kernel) (zt_X_isWithin hr1) trivial trivial rfl rfl rfl rfl rfl rfl rfl) zd122_3 zxt15 rfl (by decide) (by decide) rfl ?_
  refine zv_zeq hB zd122_6 rfl (fun hc2 => ?_) (fun hc2 => ?_)
  · rw [if_pos hc2] at h
    refine zv_con hB zd122_19 rfl ?_
    have hw := Option.some.inj h
    subst hw
    exact hret _ _ _ _ _ zd122_20 (by trivial) ⟨rfl, rfl, rfl⟩
  · rw [if_neg hc2] at h
    refine zv_ald hB zd122_9 rfl rfl rfl ?_
    refine zv_getq hB zd122_10 rfl rfl rfl ?_
    refine zv_getf hB zd122_13 rfl rfl (fun _ _ => ?_)
    refine zv_zne hB zd122_16 rfl (fun hc3 => ?_) (fun hc3 => ?_)
    · rw [if_neg hc3] at h
      refine zv_ald hB zd122_21 rfl rfl rfl ?_
      refine zv_getr hB zd122_22 rfl ?_
      refine zv_ald hB zd122_25 rfl rfl rfl ?_
      refine zv_getr hB zd122_26 rfl ?_
      refine zv_ald hB zd122_29 rfl rfl rfl ?_
      refine zv_getq hB zd122_30 rfl rfl rfl ?_
      obtain ⟨r4, hr4, h⟩ := zi_bind h
      refine zv_cv hB (zv_emq (va2 := [.inr 2, .inr 3, .inr 4]) (F := [.inr 1, .inl f1, .inr 4, .inr 1000, .inr 1000, .inl f5, .inl f6, .inl f7, .inl f8, .inl f9, .inl f10, .inl f11, .inl f12, .inl f13, .inl f14, .inl f15, .inl f16, .inl f17, .inl f18, .inl f19, .inl f20, .inl f21, .inl f22, .inr 1000, .inr 1000, .inl f25]) (F' := [.inr 1, .inl f1, .inr 4, .inr 3, .inr 4, .inl r4.1, .inl f6, .inl f7, .inl f8, .inl f9, .inl f10, .inl f11, .inl f12, .inl f13, .inl f14, .inl f15, .inl f16, .inl f17, .inl f18, .inl f19, .inl f20, .inl f21, .inl f22, .inr 1000, .inr 1000, .inl f25]) (G := [g0, g1, g2, g3, g4, g5, g6, g7, g8, g9, g10, g11, g12, g13, g14, g15, g16]) (G' := [r4.2, g1, g2, g3, g4, g5, g6, g7, g8, g9, g10, g11, g12, g13, g14, g15, g16]) (ρ := [2, 3, 4, 5]) (φ := [3, 4, 5]) (ψ := [0]) [none, none, none, some 0, some 1, some 2, none, none, none, none, none, none, none, none, none, none, none, none, none, none, none, none, none, none, none, none] [some 0, none, none, none, none, none, none, none, none, none, none, none, none, none, none, none, none] zyw_View_open zyw_X_where zye_X_where (by decide +kernel) (zt_View_open hr4) ⟨⟨_, rfl, fun (h : zv_is (.inr 1000)) => (Nat.lt_irrefl 1000 h).elim⟩, ⟨_, rfl, fun (h : zv_is (.inr 1000)) => (Nat.lt_irrefl 1000 h).elim⟩, ⟨_, rfl, fun _ => rfl⟩, trivial⟩ ⟨rfl, trivial⟩ rfl rfl rfl rfl rfl rfl rfl) zd122_33 zxt84 rfl (by decide) (by decide) rfl ?_
      refine zv_con hB zd122_36 rfl ?_
      refine zv_ist hB zd122_37 rfl rfl rfl ?_
      refine zv_con hB zd122_38 rfl ?_
      refine zv_ist hB zd122_39 rfl rfl rfl ?_
      obtain ⟨q9, hq9, h⟩ := zi_bind h
      refine l0 _ _ _ _ _ _ _ _ _ _ _ _ _ _ _ _ _ _ _ q9 hq9 ?_
      rcases q9 with e10 | w12
      · replace h := zi_sl h
        show good 71 [.inr 1000, .inl x1, .inl e10.1, .inr 1000] [] [.inr 1, .inl f1, .inr 4, .inr 3, .inr 4, .inl e10.2.1, .inl e10.2.2.1, .inl e10.2.2.2.1, .inl f8, .inl f9, .inl e10.2.2.2.2.1, .inl f11, .inl f12, .inl f13, .inl f14, .inl f15, .inl e10.2.2.2.2.2.1, .inl f17, .inl e10.2.2.2.2.2.2.1, .inl f19, .inl f20, .inl f21, .inl f22, .inr 1000, .inr 1000, .inl e10.2.2.2.2.2.2.2.1] [e10.2.2.2.2.2.2.2.2.1, e10.2.2.2.2.2.2.2.2.2.1, g2, g3, g4, g5, g6, g7, g8, e10.2.2.2.2.2.2.2.2.2.2.1, g10, e10.2.2.2.2.2.2.2.2.2.2.2.1, e10.2.2.2.2.2.2.2.2.2.2.2.2.1, e10.2.2.2.2.2.2.2.2.2.2.2.2.2.1, g14, e10.2.2.2.2.2.2.2.2.2.2.2.2.2.2.1, e10.2.2.2.2.2.2.2.2.2.2.2.2.2.2.2]
        refine zv_ild hB zd122_71 rfl rfl ?_
        refine zv_con hB zd122_72 rfl ?_
        refine zv_cne hB zd122_73 rfl (fun hc11 => ?_) (fun hc11 => ?_)
        · rw [if_neg hc11] at h
          refine zv_ild hB zd122_81 rfl rfl ?_
          have hw := Option.some.inj h
          refine zv_wk hB (L' := [.inr 1000, .inl x1, .inl e10.1, .inr 1000]) (F' := [.inr 1, .inl f1, .inr 4, .inr 1000, .inr 1000, .inl e10.2.1, .inl e10.2.2.1, .inl e10.2.2.2.1, .inl f8, .inl f9, .inl e10.2.2.2.2.1, .inl f11, .inl f12, .inl f13, .inl f14, .inl f15, .inl e10.2.2.2.2.2.1, .inl f17, .inl e10.2.2.2.2.2.2.1, .inl f19, .inl f20, .inl f21, .inl f22, .inr 1000, .inr 1000, .inl e10.2.2.2.2.2.2.2.1]) ⟨fun _ => rfl, fun _ => rfl, fun _ => rfl, fun _ => rfl, trivial⟩ ⟨fun _ => rfl, fun _ => rfl, fun _ => rfl, fun (h : zv_is (.inr 1000)) => (Nat.lt_irrefl 1000 h).elim, fun (h : zv_is (.inr 1000)) => (Nat.lt_irrefl 1000 h).elim, fun _ => rfl, fun _ => rfl, fun _ => rfl, fun _ => rfl, fun _ => rfl, fun _ => rfl, fun _ => rfl, fun _ => rfl, fun _ => rfl, fun _ => rfl, fun _ => rfl, fun _ => rfl, fun _ => rfl, fun _ => rfl, fun _ => rfl, fun _ => rfl, fun _ => rfl, fun _ => rfl, fun (h : zv_is (.inr 1000)) => (Nat.lt_irrefl 1000 h).elim, fun (h : zv_is (.inr 1000)) => (Nat.lt_irrefl 1000 h).elim, fun _ => rfl, trivial⟩ ?_
          subst hw
          exact hret _ _ _ _ _ zd122_82 (by trivial) ⟨rfl, rfl, rfl⟩
        · rw [if_pos hc11] at h
          refine zv_con hB zd122_76 rfl ?_
          refine zv_goto hB zd122_78 rfl ?_
          have hw := Option.some.inj h
          refine zv_wk hB (L' := [.inr 1000, .inl x1, .inl e10.1, .inr 1000]) (F' := [.inr 1, .inl f1, .inr 4, .inr 1000, .inr 1000, .inl e10.2.1, .inl e10.2.2.1, .inl e10.2.2.2.1, .inl f8, .inl f9, .inl e10.2.2.2.2.1, .inl f11, .inl f12, .inl f13, .inl f14, .inl f15, .inl e10.2.2.2.2.2.1, .inl f17, .inl e10.2.2.2.2.2.2.1, .inl f19, .inl f20, .inl f21, .inl f22, .inr 1000, .inr 1000, .inl e10.2.2.2.2.2.2.2.1]) ⟨fun _ => rfl, fun _ => rfl, fun _ => rfl, fun _ => rfl, trivial⟩ ⟨fun _ => rfl, fun _ => rfl, fun _ => rfl, fun (h : zv_is (.inr 1000)) => (Nat.lt_irrefl 1000 h).elim, fun (h : zv_is (.inr 1000)) => (Nat.lt_irrefl 1000 h).elim, fun _ => rfl, fun _ => rfl, fun _ => rfl, fun _ => rfl, fun _ => rfl, fun _ => rfl, fun _ => rfl, fun _ => rfl, fun _ => rfl, fun _ => rfl, fun _ => rfl, fun _ => rfl, fun _ => rfl, fun _ => rfl, fun _ => rfl, fun _ => rfl, fun _ => rfl, fun _ => rfl, fun (h : zv_is (.inr 1000)) => (Nat.lt_irrefl 1000 h).elim, fun (h : zv_is (.inr 1000)) => (Nat.lt_irrefl 1000 h).elim, fun _ => rfl, trivial⟩ ?_
          subst hw
          exact hret _ _ _ _ _ zd122_82 (by trivial) ⟨rfl, rfl, rfl⟩
      · exact Option.some.inj h
    · rw [if_pos hc3] at h
      refine zv_con hB zd122_19 rfl ?_
      have hw := Option.some.inj h
      subst hw
      exact hret _ _ _ _ _ zd122_20 (by trivial) ⟨rfl, rfl, rfl⟩
/-! Sky_copyFrom (LStarTales$Sky;)V -/
-- names: 0 Sky('arg', 0), 1 Sky('arg', 1), 2 (0, 24)(1, 1, 1), 3 (0, 24)(0, 1, 1), 4 (0, 24)(1, 1, 2), 5 (0, 24)(0, 1, 2), 6 (0, 24)(1, 1, 3), 7 (0, 24)(0, 1, 3), 8 (0, 24)(1, 1, 4), 9 (0, 24)(0, 1, 4), 10 (0, 24)(1, 1, 5), 11 (0, 24)(0, 1, 5)
-- fields: f0 = 1.told_, f1 = 0.told_, f2 = 1.hour_, f3 = 0.hour_, f4 = 1.night_, f5 = 0.night_, f6 = 1.clouds_, f7 = 0.clouds_, f8 = 1.sightColumns_, f9 = 0.sightColumns_, f10 = 1.sightRows_, f11 = 0.sightRows_, f12 = 1.chance_, f13 = 0.chance_; arrays: g0 = 2, g1 = 3, g2 = 4, g3 = 5, g4 = 6, g5 = 7, g6 = 8, g7 = 9, g8 = 10, g9 = 11; out: [('f', 1), ('f', 3), ('f', 5), ('f', 7), ('f', 9), ('f', 11), ('f', 13), ('g', 1), ('g', 3), ('g', 5), ('g', 7), ('g', 9)]
abbrev zy_Sky_copyFrom : zNL := (12, [(0, 1), (1, 1)], [(1, 1, 0, 0), (0, 1, 0, 1), (1, 1, 6, 2), (0, 1, 6, 3), (1, 1, 7, 4), (0, 1, 7, 5), (1, 1, 8, 6), (0, 1, 8, 7), (1, 1, 9, 8), (0, 1, 9, 9), (1, 1, 10, 10), (0, 1, 10, 11), (1, 1, 11, 12), (0, 1, 11, 13)], [(1, 1, 1, 2), (0, 1, 1, 3), (1, 1, 2, 4), (0, 1, 2, 5), (1, 1, 3, 6), (0, 1, 3, 7), (1, 1, 4, 8), (0, 1, 4, 9), (1, 1, 5, 10), (0, 1, 5, 11)], [(2, 0, 24, 0), (3, 0, 24, 1), (4, 0, 24, 2), (5, 0, 24, 3), (6, 0, 24, 4), (7, 0, 24, 5), (8, 0, 24, 6), (9, 0, 24, 7), (10, 0, 24, 8), (11, 0, 24, 9)])
theorem zyw_Sky_copyFrom : zv_wf zy_Sky_copyFrom = true := by decide +kernel
theorem zye_Sky_copyFrom : zv_ek2 zy_Sky_copyFrom = true := by decide +kernel
def zf_Sky_copyFrom (f0 : Int) (f1 : Int) (f2 : Int) (f3 : Int) (f4 : Int) (f5 : Int) (f6 : Int) (f7 : Int) (f8 : Int) (f9 : Int) (f10 : Int) (f11 : Int) (f12 : Int) (f13 : Int) (g0 : (Int → Int)) (g1 : (Int → Int)) (g2 : (Int → Int)) (g3 : (Int → Int)) (g4 : (Int → Int)) (g5 : (Int → Int)) (g6 : (Int → Int)) (g7 : (Int → Int)) (g8 : (Int → Int)) (g9 : (Int → Int)) : Option (Int × Int × Int × Int × Int × Int × Int × (Int → Int) × (Int → Int) × (Int → Int) × (Int → Int) × (Int → Int)) := some (f0, f2, f4, f6, f8, f10, f12, (zv_cpy g0 g1 24), (zv_cpy g2 g3 24), (zv_cpy g4 g5 24), (zv_cpy g6 g7 24), (zv_cpy g8 g9 24))
theorem zd125_0 : decode zxm125.2.1 0 = .ok (.aload_n 0, 1) := by decide +kernel
theorem zd125_1 : decode zxm125.2.1 1 = .ok (.aload_n 1, 1) := by decide +kernel
theorem zd125_2 : decode zxm125.2.1 2 = .ok (.getfield 9, 3) := by decide +kernel
theorem zd125_5 : decode zxm125.2.1 5 = .ok (.putfield 9, 3) := by decide +kernel
theorem zd125_8 : decode zxm125.2.1 8 = .ok (.aload_n 1, 1) := by decide +kernel
theorem zd125_9 : decode zxm125.2.1 9 = .ok (.getfield 15, 3) := by decide +kernel
theorem zd125_12 : decode zxm125.2.1 12 = .ok (.iconst 0, 1) := by decide +kernel
theorem zd125_13 : decode zxm125.2.1 13 = .ok (.aload_n 0, 1) := by decide +kernel
theorem zd125_14 : decode zxm125.2.1 14 = .ok (.getfield 15, 3) := by decide +kernel
theorem zd125_17 : decode zxm125.2.1 17 = .ok (.iconst 0, 1) := by decide +kernel
theorem zd125_18 : decode zxm125.2.1 18 = .ok (.bipush 24, 2) := by decide +kernel
theorem zd125_20 : decode zxm125.2.1 20 = .ok (.invokestatic 87, 3) := by decide +kernel
theorem zd125_23 : decode zxm125.2.1 23 = .ok (.aload_n 1, 1) := by decide +kernel
theorem zd125_24 : decode zxm125.2.1 24 = .ok (.getfield 19, 3) := by decide +kernel
theorem zd125_27 : decode zxm125.2.1 27 = .ok (.iconst 0, 1) := by decide +kernel
theorem zd125_28 : decode zxm125.2.1 28 = .ok (.aload_n 0, 1) := by decide +kernel
theorem zd125_29 : decode zxm125.2.1 29 = .ok (.getfield 19, 3) := by decide +kernel
theorem zd125_32 : decode zxm125.2.1 32 = .ok (.iconst 0, 1) := by decide +kernel
theorem zd125_33 : decode zxm125.2.1 33 = .ok (.bipush 24, 2) := by decide +kernel
theorem zd125_35 : decode zxm125.2.1 35 = .ok (.invokestatic 87, 3) := by decide +kernel
theorem zd125_38 : decode zxm125.2.1 38 = .ok (.aload_n 1, 1) := by decide +kernel
theorem zd125_39 : decode zxm125.2.1 39 = .ok (.getfield 22, 3) := by decide +kernel
theorem zd125_42 : decode zxm125.2.1 42 = .ok (.iconst 0, 1) := by decide +kernel
theorem zd125_43 : decode zxm125.2.1 43 = .ok (.aload_n 0, 1) := by decide +kernel
theorem zd125_44 : decode zxm125.2.1 44 = .ok (.getfield 22, 3) := by decide +kernel
theorem zd125_47 : decode zxm125.2.1 47 = .ok (.iconst 0, 1) := by decide +kernel
theorem zd125_48 : decode zxm125.2.1 48 = .ok (.bipush 24, 2) := by decide +kernel
theorem zd125_50 : decode zxm125.2.1 50 = .ok (.invokestatic 87, 3) := by decide +kernel
theorem zd125_53 : decode zxm125.2.1 53 = .ok (.aload_n 1, 1) := by decide +kernel
theorem zd125_54 : decode zxm125.2.1 54 = .ok (.getfield 25, 3) := by decide +kernel
theorem zd125_57 : decode zxm125.2.1 57 = .ok (.iconst 0, 1) := by decide +kernel
theorem zd125_58 : decode zxm125.2.1 58 = .ok (.aload_n 0, 1) := by decide +kernel
theorem zd125_59 : decode zxm125.2.1 59 = .ok (.getfield 25, 3) := by decide +kernel
theorem zd125_62 : decode zxm125.2.1 62 = .ok (.iconst 0, 1) := by decide +kernel
theorem zd125_63 : decode zxm125.2.1 63 = .ok (.bipush 24, 2) := by decide +kernel
theorem zd125_65 : decode zxm125.2.1 65 = .ok (.invokestatic 87, 3) := by decide +kernel
theorem zd125_68 : decode zxm125.2.1 68 = .ok (.aload_n 1, 1) := by decide +kernel
theorem zd125_69 : decode zxm125.2.1 69 = .ok (.getfield 28, 3) := by decide +kernel
theorem zd125_72 : decode zxm125.2.1 72 = .ok (.iconst 0, 1) := by decide +kernel
theorem zd125_73 : decode zxm125.2.1 73 = .ok (.aload_n 0, 1) := by decide +kernel
theorem zd125_74 : decode zxm125.2.1 74 = .ok (.getfield 28, 3) := by decide +kernel
theorem zd125_77 : decode zxm125.2.1 77 = .ok (.iconst 0, 1) := by decide +kernel
theorem zd125_78 : decode zxm125.2.1 78 = .ok (.bipush 24, 2) := by decide +kernel
theorem zd125_80 : decode zxm125.2.1 80 = .ok (.invokestatic 87, 3) := by decide +kernel
theorem zd125_83 : decode zxm125.2.1 83 = .ok (.aload_n 0, 1) := by decide +kernel
theorem zd125_84 : decode zxm125.2.1 84 = .ok (.aload_n 1, 1) := by decide +kernel
theorem zd125_85 : decode zxm125.2.1 85 = .ok (.getfield 31, 3) := by decide +kernel
theorem zd125_88 : decode zxm125.2.1 88 = .ok (.putfield 31, 3) := by decide +kernel
theorem zd125_91 : decode zxm125.2.1 91 = .ok (.aload_n 0, 1) := by decide +kernel
theorem zd125_92 : decode zxm125.2.1 92 = .ok (.aload_n 1, 1) := by decide +kernel
theorem zd125_93 : decode zxm125.2.1 93 = .ok (.getfield 34, 3) := by decide +kernel
theorem zd125_96 : decode zxm125.2.1 96 = .ok (.putfield 34, 3) := by decide +kernel
theorem zd125_99 : decode zxm125.2.1 99 = .ok (.aload_n 0, 1) := by decide +kernel
theorem zd125_100 : decode zxm125.2.1 100 = .ok (.aload_n 1, 1) := by decide +kernel
theorem zd125_101 : decode zxm125.2.1 101 = .ok (.getfield 37, 3) := by decide +kernel
theorem zd125_104 : decode zxm125.2.1 104 = .ok (.putfield 37, 3) := by decide +kernel
theorem zd125_107 : decode zxm125.2.1 107 = .ok (.aload_n 0, 1) := by decide +kernel
theorem zd125_108 : decode zxm125.2.1 108 = .ok (.aload_n 1, 1) := by decide +kernel
theorem zd125_109 : decode zxm125.2.1 109 = .ok (.getfield 40, 3) := by decide +kernel
theorem zd125_112 : decode zxm125.2.1 112 = .ok (.putfield 40, 3) := by decide +kernel
theorem zd125_115 : decode zxm125.2.1 115 = .ok (.aload_n 0, 1) := by decide +kernel
theorem zd125_116 : decode zxm125.2.1 116 = .ok (.aload_n 1, 1) := by decide +kernel
theorem zd125_117 : decode zxm125.2.1 117 = .ok (.getfield 43, 3) := by decide +kernel
theorem zd125_120 : decode zxm125.2.1 120 = .ok (.putfield 43, 3) := by decide +kernel
theorem zd125_123 : decode zxm125.2.1 123 = .ok (.aload_n 0, 1) := by decide +kernel
theorem zd125_124 : decode zxm125.2.1 124 = .ok (.aload_n 1, 1) := by decide +kernel
theorem zd125_125 : decode zxm125.2.1 125 = .ok (.getfield 46, 3) := by decide +kernel
theorem zd125_128 : decode zxm125.2.1 128 = .ok (.putfield 46, 3) := by decide +kernel
theorem zd125_131 : decode zxm125.2.1 131 = .ok (.return_, 1) := by decide +kernel
theorem zt_Sky_copyFrom {f0 : Int} {f1 : Int} {f2 : Int} {f3 : Int} {f4 : Int} {f5 : Int} {f6 : Int} {f7 : Int} {f8 : Int} {f9 : Int} {f10 : Int} {f11 : Int} {f12 : Int} {f13 : Int} {g0 : (Int → Int)} {g1 : (Int → Int)} {g2 : (Int → Int)} {g3 : (Int → Int)} {g4 : (Int → Int)} {g5 : (Int → Int)} {g6 : (Int → Int)} {g7 : (Int → Int)} {g8 : (Int → Int)} {g9 : (Int → Int)} {o : Int × Int × Int × Int × Int × Int × Int × (Int → Int) × (Int → Int) × (Int → Int) × (Int → Int) × (Int → Int)} (h : zf_Sky_copyFrom f0 f1 f2 f3 f4 f5 f6 f7 f8 f9 f10 f11 f12 f13 g0 g1 g2 g3 g4 g5 g6 g7 g8 g9 = some o) : zv_Fn z_TB z_cl z_KX zy_Sky_copyFrom zxm125 (1, 60) [.inr 0, .inr 1] [.inl f0, .inl f1, .inl f2, .inl f3, .inl f4, .inl f5, .inl f6, .inl f7, .inl f8, .inl f9, .inl f10, .inl f11, .inl f12, .inl f13] [g0, g1, g2, g3, g4, g5, g6, g7, g8, g9] none [.inl f0, .inl o.1, .inl f2, .inl o.2.1, .inl f4, .inl o.2.2.1, .inl f6, .inl o.2.2.2.1, .inl f8, .inl o.2.2.2.2.1, .inl f10, .inl o.2.2.2.2.2.1, .inl f12, .inl o.2.2.2.2.2.2.1] [g0, o.2.2.2.2.2.2.2.1, g2, o.2.2.2.2.2.2.2.2.1, g4, o.2.2.2.2.2.2.2.2.2.1, g6, o.2.2.2.2.2.2.2.2.2.2.1, g8, o.2.2.2.2.2.2.2.2.2.2.2] := zv_meth (K := (z_KF8, z_KC8, z_KL8, z_KT8, [], [], [], none)) (FT := z_FT) (MT := z_MT) (n := 2) zxp125 (z_ks8 _ (fun _ h => List.mem_cons_of_mem _ h) _ _ _ _ (fun j r h _ => by cases h)) (fun _ _ => zs_KX_p) zyw_Sky_copyFrom (fun va F G h => by obtain ⟨rfl, _⟩ := h; rfl) (fun va F G h => by obtain ⟨rfl, _⟩ := h; rfl) rfl fun good va F G hB hret hvret hP => by
  obtain ⟨rfl, rfl, rfl⟩ := hP
  unfold zf_Sky_copyFrom at h
  refine zv_ald hB zd125_0 rfl rfl rfl ?_
  refine zv_ald hB zd125_1 rfl rfl rfl ?_
  refine zv_getf hB zd125_2 rfl rfl (fun _ _ => ?_)
  refine zv_putf hB zd125_5 rfl rfl (fun h => by cases h) rfl ?_
  refine zv_ald hB zd125_8 rfl rfl rfl ?_
  refine zv_getr hB zd125_9 rfl ?_
  refine zv_con hB zd125_12 rfl ?_
  refine zv_ald hB zd125_13 rfl rfl rfl ?_
  refine zv_getr hB zd125_14 rfl ?_
  refine zv_con hB zd125_17 rfl ?_
  refine zv_con hB zd125_18 rfl ?_
  refine zv_acp hB zd125_20 (List.mem_of_getElem? (i := 10) rfl) rfl rfl rfl rfl (by decide) (by decide) (by decide) ⟨by decide, by decide⟩ ?_
  refine zv_ald hB zd125_23 rfl rfl rfl ?_
  refine zv_getr hB zd125_24 rfl ?_
  refine zv_con hB zd125_27 rfl ?_
  refine zv_ald hB zd125_28 rfl rfl rfl ?_
  refine zv_getr hB zd125_29 rfl ?_
  refine zv_con hB zd125_32 rfl ?_
  refine zv_con hB zd125_33 rfl ?_
  refine zv_acp hB zd125_35 (List.mem_of_getElem? (i := 10) rfl) rfl rfl rfl rfl (by decide) (by decide) (by decide) ⟨by decide, by decide⟩ ?_
  refine zv_ald hB zd125_38 rfl rfl rfl ?_
  refine zv_getr hB zd125_39 rfl ?_
  refine zv_con hB zd125_42 rfl ?_
  refine zv_ald hB zd125_43 rfl rfl rfl ?_
  refine zv_getr hB zd125_44 rfl ?_
  refine zv_con hB zd125_47 rfl ?_
  refine zv_con hB zd125_48 rfl ?_
  refine zv_acp hB zd125_50 (List.mem_of_getElem? (i := 10) rfl) rfl rfl rfl rfl (by decide) (by decide) (by decide) ⟨by decide, by decide⟩ ?_
  refine zv_ald hB zd125_53 rfl rfl rfl ?_
  refine zv_getr hB zd125_54 rfl ?_
  refine zv_con hB zd125_57 rfl ?_
  refine zv_ald hB zd125_58 rfl rfl rfl ?_
  refine zv_getr hB zd125_59 rfl ?_
  refine zv_con hB zd125_62 rfl ?_
  refine zv_con hB zd125_63 rfl ?_
  refine zv_acp hB zd125_65 (List.mem_of_getElem? (i := 10) rfl) rfl rfl rfl rfl (by decide) (by decide) (by decide) ⟨by decide, by decide⟩ ?_
  refine zv_ald hB zd125_68 rfl rfl rfl ?_
  refine zv_getr hB zd125_69 rfl ?_
  refine zv_con hB zd125_72 rfl ?_
  refine zv_ald hB zd125_73 rfl rfl rfl ?_
  refine zv_getr hB zd125_74 rfl ?_
  refine zv_con hB zd125_77 rfl ?_
  refine zv_con hB zd125_78 rfl ?_
  refine zv_acp hB zd125_80 (List.mem_of_getElem? (i := 10) rfl) rfl rfl rfl rfl (by decide) (by decide) (by decide) ⟨by decide, by decide⟩ ?_
  refine zv_ald hB zd125_83 rfl rfl rfl ?_
  refine zv_ald hB zd125_84 rfl rfl rfl ?_
  refine zv_getf hB zd125_85 rfl rfl (fun _ _ => ?_)
  refine zv_putf hB zd125_88 rfl rfl (fun h => by cases h) rfl ?_
  refine zv_ald hB zd125_91 rfl rfl rfl ?_
  refine zv_ald hB zd125_92 rfl rfl rfl ?_
  refine zv_getf hB zd125_93 rfl rfl (fun _ _ => ?_)
  refine zv_putf hB zd125_96 rfl rfl (fun h => by cases h) rfl ?_
  refine zv_ald hB zd125_99 rfl rfl rfl ?_
  refine zv_ald hB zd125_100 rfl rfl rfl ?_
  refine zv_getf hB zd125_101 rfl rfl (fun _ _ => ?_)
  refine zv_putf hB zd125_104 rfl rfl (fun h => by cases h) rfl ?_
  refine zv_ald hB zd125_107 rfl rfl rfl ?_
  refine zv_ald hB zd125_108 rfl rfl rfl ?_
  refine zv_getf hB zd125_109 rfl rfl (fun _ _ => ?_)
  refine zv_putf hB zd125_112 rfl rfl (fun h => by cases h) rfl ?_
  refine zv_ald hB zd125_115 rfl rfl rfl ?_
  refine zv_ald hB zd125_116 rfl rfl rfl ?_
  refine zv_getf hB zd125_117 rfl rfl (fun _ _ => ?_)
  refine zv_putf hB zd125_120 rfl rfl (fun h => by cases h) rfl ?_
  refine zv_ald hB zd125_123 rfl rfl rfl ?_
  refine zv_ald hB zd125_124 rfl rfl rfl ?_
  refine zv_getf hB zd125_125 rfl rfl (fun _ _ => ?_)
  refine zv_putf hB zd125_128 rfl rfl (fun h => by cases h) rfl ?_
  have hw := Option.some.inj h
  subst hw
  exact hvret _ _ _ _ zd125_131 trivial ⟨rfl, rfl, rfl⟩
end
