/-! Methods as functions, and that they do what these do. -/
/-! Pilot_step (LStarTales$View;LStarTales$Sea;II)I -/
-- names: 0 Pilot('arg', 0), 1 View('arg', 1), 2 Sea('arg', 2), 3 Law(1, 7, 1), 4 (0, 13)(3, 4, 12), 5 Sky(1, 7, 0), 6 (0, 24)(5, 1, 1), 7 (0, 24)(5, 1, 2), 8 (0, 24)(5, 1, 3), 9 (0, 14)(3, 4, 3), 10 (0, 14)(3, 4, 5), 11 (0, 14)(3, 4, 6), 12 (0, 200)(3, 4, 0), 13 (0, 40)(3, 4, 13), 14 (0, 200)(3, 4, 1), 15 (0, 12)(2, 2, 0)
-- fields: f0 = 1.law_, f1 = 1.sky_, f2 = 1.x_, f3 = 1.y_, f4 = 5.hour_, f5 = 5.night_, f6 = 5.told_, f7 = 5.sightColumns_, f8 = 5.sightRows_, f9 = 5.clouds_, f10 = 3.tellsSeen_, f11 = 1.starsAsked_, f12 = 1.starsHold_, f13 = 3.clauses_, f14 = 3.answer_, f15 = 3.seenByPlace_; arrays: g0 = 4, g1 = 6, g2 = 7, g3 = 8, g4 = 9, g5 = 10, g6 = 11, g7 = 12, g8 = 13, g9 = 14, g10 = 15; out: [('ret', None), ('f', 2), ('f', 3), ('f', 11), ('f', 12), ('f', 14), ('g', 0), ('g', 8)]
abbrev zy_Pilot_step : zNL := (16, [(0, 9), (1, 7), (2, 2), (3, 4), (5, 1)], [(1, 7, 1, 0), (1, 7, 0, 1), (1, 7, 2, 2), (1, 7, 3, 3), (5, 1, 6, 4), (5, 1, 7, 5), (5, 1, 0, 6), (5, 1, 9, 7), (5, 1, 10, 8), (5, 1, 8, 9), (3, 4, 8, 10), (1, 7, 6, 11), (1, 7, 7, 12), (3, 4, 7, 13), (3, 4, 14, 14), (3, 4, 10, 15)], [(3, 4, 12, 4), (5, 1, 1, 6), (5, 1, 2, 7), (5, 1, 3, 8), (3, 4, 3, 9), (3, 4, 5, 10), (3, 4, 6, 11), (3, 4, 0, 12), (3, 4, 13, 13), (3, 4, 1, 14), (2, 2, 0, 15)], [(4, 0, 13, 0), (6, 0, 24, 1), (7, 0, 24, 2), (8, 0, 24, 3), (9, 0, 14, 4), (10, 0, 14, 5), (11, 0, 14, 6), (12, 0, 200, 7), (13, 0, 40, 8), (14, 0, 200, 9), (15, 0, 12, 10)])
theorem zyw_Pilot_step : zv_wf zy_Pilot_step = true := by decide +kernel
theorem zye_Pilot_step : zv_ek2 zy_Pilot_step = true := by decide +kernel
def zf_Pilot_step (x3 : Int) (x4 : Int) (f2 : Int) (f3 : Int) (f4 : Int) (f5 : Int) (f6 : Int) (f7 : Int) (f8 : Int) (f9 : Int) (f10 : Int) (f11 : Int) (f12 : Int) (f13 : Int) (f14 : Int) (f15 : Int) (g0 : (Int → Int)) (g1 : (Int → Int)) (g2 : (Int → Int)) (g3 : (Int → Int)) (g4 : (Int → Int)) (g5 : (Int → Int)) (g6 : (Int → Int)) (g7 : (Int → Int)) (g8 : (Int → Int)) (g9 : (Int → Int)) (g10 : (Int → Int)) : Option (Int × Int × Int × Int × Int × Int × (Int → Int) × (Int → Int)) := (zf_X_columnOf x3).bind fun r1 => ((zf_X_rowOf x3).bind fun r2 => ((zf_View_goTo r1 r2 f2 f3 f4 f5 g0).bind fun r3 => ((zf_View_sees x4 f6 f4 r3.1 r3.2.1 f7 f8 f9 f10 f11 f12 f13 f14 f15 g1 g2 r3.2.2 g3 g4 g5 g6 g7 g8 g9).bind fun r4 => (if r4.1 = 0 then (some (x3, r3.1, r3.2.1, r4.2.1, r4.2.2.1, r4.2.2.2.1, r4.2.2.2.2.1, r4.2.2.2.2.2)) else ((zf_Sky_standing x4 f4 g1).bind fun r6 => ((zf_Math_floorMod (zi_w (r6 - r1)) 24).bind fun r7 => ((zf_Math_min r7 (zi_w (24 - r7))).bind fun r8 => (cond (zi_ix x4 24) (if r8 = 0 then (if (zi_w ((g2 x4) - r2)) = 0 then (some (x3, r3.1, r3.2.1, r4.2.1, r4.2.2.1, r4.2.2.2.1, r4.2.2.2.2.1, r4.2.2.2.2.2)) else ((zf_Math_abs (zi_w ((g2 x4) - r2))).bind fun r24 => (if r8 < r24 then (if 0 < (zi_w ((g2 x4) - r2)) then ((zf_Sea_goFrom x3 3 g10).bind fun r29 => (if r29 = (-1) then (some (x3, r3.1, r3.2.1, r4.2.1, r4.2.2.1, r4.2.2.2.1, r4.2.2.2.2.1, r4.2.2.2.2.2)) else (some (r29, r3.1, r3.2.1, r4.2.1, r4.2.2.1, r4.2.2.2.1, r4.2.2.2.2.1, r4.2.2.2.2.2)))) else ((zf_Sea_goFrom x3 4 g10).bind fun r27 => (if r27 = (-1) then (some (x3, r3.1, r3.2.1, r4.2.1, r4.2.2.1, r4.2.2.2.1, r4.2.2.2.2.1, r4.2.2.2.2.2)) else (some (r27, r3.1, r3.2.1, r4.2.1, r4.2.2.1, r4.2.2.2.1, r4.2.2.2.2.1, r4.2.2.2.2.2))))) else (if 12 < r7 then ((zf_Sea_goFrom x3 2 g10).bind fun r32 => (if r32 = (-1) then (some (x3, r3.1, r3.2.1, r4.2.1, r4.2.2.1, r4.2.2.2.1, r4.2.2.2.2.1, r4.2.2.2.2.2)) else (some (r32, r3.1, r3.2.1, r4.2.1, r4.2.2.1, r4.2.2.2.1, r4.2.2.2.2.1, r4.2.2.2.2.2)))) else ((zf_Sea_goFrom x3 1 g10).bind fun r34 => (if r34 = (-1) then (some (x3, r3.1, r3.2.1, r4.2.1, r4.2.2.1, r4.2.2.2.1, r4.2.2.2.2.1, r4.2.2.2.2.2)) else (some (r34, r3.1, r3.2.1, r4.2.1, r4.2.2.1, r4.2.2.2.1, r4.2.2.2.2.1, r4.2.2.2.2.2)))))))) else ((zf_Math_abs (zi_w ((g2 x4) - r2))).bind fun r11 => (if r8 < r11 then (if 0 < (zi_w ((g2 x4) - r2)) then ((zf_Sea_goFrom x3 3 g10).bind fun r16 => (if r16 = (-1) then (some (x3, r3.1, r3.2.1, r4.2.1, r4.2.2.1, r4.2.2.2.1, r4.2.2.2.2.1, r4.2.2.2.2.2)) else (some (r16, r3.1, r3.2.1, r4.2.1, r4.2.2.1, r4.2.2.2.1, r4.2.2.2.2.1, r4.2.2.2.2.2)))) else ((zf_Sea_goFrom x3 4 g10).bind fun r14 => (if r14 = (-1) then (some (x3, r3.1, r3.2.1, r4.2.1, r4.2.2.1, r4.2.2.2.1, r4.2.2.2.2.1, r4.2.2.2.2.2)) else (some (r14, r3.1, r3.2.1, r4.2.1, r4.2.2.1, r4.2.2.2.1, r4.2.2.2.2.1, r4.2.2.2.2.2))))) else (if 12 < r7 then ((zf_Sea_goFrom x3 2 g10).bind fun r19 => (if r19 = (-1) then (some (x3, r3.1, r3.2.1, r4.2.1, r4.2.2.1, r4.2.2.2.1, r4.2.2.2.2.1, r4.2.2.2.2.2)) else (some (r19, r3.1, r3.2.1, r4.2.1, r4.2.2.1, r4.2.2.2.1, r4.2.2.2.2.1, r4.2.2.2.2.2)))) else ((zf_Sea_goFrom x3 1 g10).bind fun r21 => (if r21 = (-1) then (some (x3, r3.1, r3.2.1, r4.2.1, r4.2.2.1, r4.2.2.2.1, r4.2.2.2.2.1, r4.2.2.2.2.2)) else (some (r21, r3.1, r3.2.1, r4.2.1, r4.2.2.1, r4.2.2.2.1, r4.2.2.2.2.1, r4.2.2.2.2.2)))))))) none))))))))
theorem zd153_0 : decode zxm153.2.1 0 = .ok (.iload_n 3, 1) := by decide +kernel
theorem zd153_1 : decode zxm153.2.1 1 = .ok (.invokestatic 58, 3) := by decide +kernel
theorem zd153_4 : decode zxm153.2.1 4 = .ok (.istore 5, 2) := by decide +kernel
theorem zd153_6 : decode zxm153.2.1 6 = .ok (.iload_n 3, 1) := by decide +kernel
theorem zd153_7 : decode zxm153.2.1 7 = .ok (.invokestatic 62, 3) := by decide +kernel
theorem zd153_10 : decode zxm153.2.1 10 = .ok (.istore 6, 2) := by decide +kernel
theorem zd153_12 : decode zxm153.2.1 12 = .ok (.aload_n 1, 1) := by decide +kernel
theorem zd153_13 : decode zxm153.2.1 13 = .ok (.iload 5, 2) := by decide +kernel
theorem zd153_15 : decode zxm153.2.1 15 = .ok (.iload 6, 2) := by decide +kernel
theorem zd153_17 : decode zxm153.2.1 17 = .ok (.invokevirtual 65, 3) := by decide +kernel
theorem zd153_20 : decode zxm153.2.1 20 = .ok (.aload_n 1, 1) := by decide +kernel
theorem zd153_21 : decode zxm153.2.1 21 = .ok (.iload 4, 2) := by decide +kernel
theorem zd153_23 : decode zxm153.2.1 23 = .ok (.invokevirtual 71, 3) := by decide +kernel
theorem zd153_26 : decode zxm153.2.1 26 = .ok (.ifCond .ne 5, 3) := by decide +kernel
theorem zd153_29 : decode zxm153.2.1 29 = .ok (.iload_n 3, 1) := by decide +kernel
theorem zd153_30 : decode zxm153.2.1 30 = .ok (.ireturn, 1) := by decide +kernel
theorem zd153_31 : decode zxm153.2.1 31 = .ok (.aload_n 1, 1) := by decide +kernel
theorem zd153_32 : decode zxm153.2.1 32 = .ok (.getfield 75, 3) := by decide +kernel
theorem zd153_35 : decode zxm153.2.1 35 = .ok (.iload 4, 2) := by decide +kernel
theorem zd153_37 : decode zxm153.2.1 37 = .ok (.invokevirtual 79, 3) := by decide +kernel
theorem zd153_40 : decode zxm153.2.1 40 = .ok (.iload 5, 2) := by decide +kernel
theorem zd153_42 : decode zxm153.2.1 42 = .ok (.isub, 1) := by decide +kernel
theorem zd153_43 : decode zxm153.2.1 43 = .ok (.bipush 24, 2) := by decide +kernel
theorem zd153_45 : decode zxm153.2.1 45 = .ok (.invokestatic 84, 3) := by decide +kernel
theorem zd153_48 : decode zxm153.2.1 48 = .ok (.istore 7, 2) := by decide +kernel
theorem zd153_50 : decode zxm153.2.1 50 = .ok (.iload 7, 2) := by decide +kernel
theorem zd153_52 : decode zxm153.2.1 52 = .ok (.bipush 24, 2) := by decide +kernel
theorem zd153_54 : decode zxm153.2.1 54 = .ok (.iload 7, 2) := by decide +kernel
theorem zd153_56 : decode zxm153.2.1 56 = .ok (.isub, 1) := by decide +kernel
theorem zd153_57 : decode zxm153.2.1 57 = .ok (.invokestatic 90, 3) := by decide +kernel
theorem zd153_60 : decode zxm153.2.1 60 = .ok (.istore 8, 2) := by decide +kernel
theorem zd153_62 : decode zxm153.2.1 62 = .ok (.aload_n 1, 1) := by decide +kernel
theorem zd153_63 : decode zxm153.2.1 63 = .ok (.getfield 75, 3) := by decide +kernel
theorem zd153_66 : decode zxm153.2.1 66 = .ok (.getfield 93, 3) := by decide +kernel
theorem zd153_69 : decode zxm153.2.1 69 = .ok (.iload 4, 2) := by decide +kernel
theorem zd153_71 : decode zxm153.2.1 71 = .ok (.iaload, 1) := by decide +kernel
theorem zd153_72 : decode zxm153.2.1 72 = .ok (.iload 6, 2) := by decide +kernel
theorem zd153_74 : decode zxm153.2.1 74 = .ok (.isub, 1) := by decide +kernel
theorem zd153_75 : decode zxm153.2.1 75 = .ok (.istore 9, 2) := by decide +kernel
theorem zd153_77 : decode zxm153.2.1 77 = .ok (.iload 8, 2) := by decide +kernel
theorem zd153_79 : decode zxm153.2.1 79 = .ok (.ifCond .ne 10, 3) := by decide +kernel
theorem zd153_82 : decode zxm153.2.1 82 = .ok (.iload 9, 2) := by decide +kernel
theorem zd153_84 : decode zxm153.2.1 84 = .ok (.ifCond .ne 5, 3) := by decide +kernel
theorem zd153_87 : decode zxm153.2.1 87 = .ok (.iload_n 3, 1) := by decide +kernel
theorem zd153_88 : decode zxm153.2.1 88 = .ok (.ireturn, 1) := by decide +kernel
theorem zd153_89 : decode zxm153.2.1 89 = .ok (.iload 8, 2) := by decide +kernel
theorem zd153_91 : decode zxm153.2.1 91 = .ok (.iload 9, 2) := by decide +kernel
theorem zd153_93 : decode zxm153.2.1 93 = .ok (.invokestatic 96, 3) := by decide +kernel
theorem zd153_96 : decode zxm153.2.1 96 = .ok (.if_icmp .lt 20, 3) := by decide +kernel
theorem zd153_99 : decode zxm153.2.1 99 = .ok (.iload 7, 2) := by decide +kernel
theorem zd153_101 : decode zxm153.2.1 101 = .ok (.bipush 12, 2) := by decide +kernel
theorem zd153_103 : decode zxm153.2.1 103 = .ok (.if_icmp .gt 7, 3) := by decide +kernel
theorem zd153_106 : decode zxm153.2.1 106 = .ok (.iconst 1, 1) := by decide +kernel
theorem zd153_107 : decode zxm153.2.1 107 = .ok (.goto 4, 3) := by decide +kernel
theorem zd153_110 : decode zxm153.2.1 110 = .ok (.iconst 2, 1) := by decide +kernel
theorem zd153_111 : decode zxm153.2.1 111 = .ok (.istore 10, 2) := by decide +kernel
theorem zd153_113 : decode zxm153.2.1 113 = .ok (.goto 15, 3) := by decide +kernel
theorem zd153_116 : decode zxm153.2.1 116 = .ok (.iload 9, 2) := by decide +kernel
theorem zd153_118 : decode zxm153.2.1 118 = .ok (.ifCond .le 7, 3) := by decide +kernel
theorem zd153_121 : decode zxm153.2.1 121 = .ok (.iconst 3, 1) := by decide +kernel
theorem zd153_122 : decode zxm153.2.1 122 = .ok (.goto 4, 3) := by decide +kernel
theorem zd153_125 : decode zxm153.2.1 125 = .ok (.iconst 4, 1) := by decide +kernel
theorem zd153_126 : decode zxm153.2.1 126 = .ok (.istore 10, 2) := by decide +kernel
theorem zd153_128 : decode zxm153.2.1 128 = .ok (.aload_n 2, 1) := by decide +kernel
theorem zd153_129 : decode zxm153.2.1 129 = .ok (.iload_n 3, 1) := by decide +kernel
theorem zd153_130 : decode zxm153.2.1 130 = .ok (.iload 10, 2) := by decide +kernel
theorem zd153_132 : decode zxm153.2.1 132 = .ok (.invokevirtual 99, 3) := by decide +kernel
theorem zd153_135 : decode zxm153.2.1 135 = .ok (.istore 11, 2) := by decide +kernel
theorem zd153_137 : decode zxm153.2.1 137 = .ok (.iload 11, 2) := by decide +kernel
theorem zd153_139 : decode zxm153.2.1 139 = .ok (.iconst (-1), 1) := by decide +kernel
theorem zd153_140 : decode zxm153.2.1 140 = .ok (.if_icmp .ne 7, 3) := by decide +kernel
theorem zd153_143 : decode zxm153.2.1 143 = .ok (.iload_n 3, 1) := by decide +kernel
theorem zd153_144 : decode zxm153.2.1 144 = .ok (.goto 5, 3) := by decide +kernel
theorem zd153_147 : decode zxm153.2.1 147 = .ok (.iload 11, 2) := by decide +kernel
theorem zd153_149 : decode zxm153.2.1 149 = .ok (.ireturn, 1) := by decide +kernel
theorem zt_Pilot_step {x3 : Int} {x4 : Int} {f2 : Int} {f3 : Int} {f4 : Int} {f5 : Int} {f6 : Int} {f7 : Int} {f8 : Int} {f9 : Int} {f10 : Int} {f11 : Int} {f12 : Int} {f13 : Int} {f14 : Int} {f15 : Int} {g0 : (Int → Int)} {g1 : (Int → Int)} {g2 : (Int → Int)} {g3 : (Int → Int)} {g4 : (Int → Int)} {g5 : (Int → Int)} {g6 : (Int → Int)} {g7 : (Int → Int)} {g8 : (Int → Int)} {g9 : (Int → Int)} {g10 : (Int → Int)} {o : Int × Int × Int × Int × Int × Int × (Int → Int) × (Int → Int)} (h : zf_Pilot_step x3 x4 f2 f3 f4 f5 f6 f7 f8 f9 f10 f11 f12 f13 f14 f15 g0 g1 g2 g3 g4 g5 g6 g7 g8 g9 g10 = some o) : zv_Fn z_TB z_cl z_KX zy_Pilot_step zxm153 (4, 240) [.inr 0, .inr 1, .inr 2, .inl x3, .inl x4] [.inr 3, .inr 5, .inl f2, .inl f3, .inl f4, .inl f5, .inl f6, .inl f7, .inl f8, .inl f9, .inl f10, .inl f11, .inl f12, .inl f13, .inl f14, .inl f15] [g0, g1, g2, g3, g4, g5, g6, g7, g8, g9, g10] (some o.1) [.inr 3, .inr 5, .inl o.2.1, .inl o.2.2.1, .inl f4, .inl f5, .inl f6, .inl f7, .inl f8, .inl f9, .inl f10, .inl o.2.2.2.1, .inl o.2.2.2.2.1, .inl f13, .inl o.2.2.2.2.2.1, .inl f15] [o.2.2.2.2.2.2.1, g1, g2, g3, g4, g5, g6, g7, o.2.2.2.2.2.2.2, g9, g10] := zv_meth (K := (z_KF6, z_KC6, z_KL6, z_KT6, [], [], [], none)) (FT := z_FT) (MT := z_MT) (n := 5) zxp153 (z_ks6 _ (fun _ h => List.mem_cons_of_mem _ h) _ _ _ _ (fun j r h _ => by cases h)) (fun _ _ => zs_KX_p) zyw_Pilot_step (fun va F G h => by obtain ⟨rfl, _⟩ := h; rfl) (fun va F G h => by obtain ⟨rfl, _⟩ := h; rfl) rfl fun good va F G hB hret hvret hP => by
  obtain ⟨rfl, rfl, rfl⟩ := hP
  unfold zf_Pilot_step at h
  refine zv_ild hB zd153_0 rfl rfl ?_
  obtain ⟨r1, hr1, h⟩ := zi_bind h
  refine zv_cs hB (zv_emq (va2 := [.inl x3]) (F := [.inr 3, .inr 5, .inl f2, .inl f3, .inl f4, .inl f5, .inl f6, .inl f7, .inl f8, .inl f9, .inl f10, .inl f11, .inl f12, .inl f13, .inl f14, .inl f15]) (F' := [.inr 3, .inr 5, .inl f2, .inl f3, .inl f4, .inl f5, .inl f6, .inl f7, .inl f8, .inl f9, .inl f10, .inl f11, .inl f12, .inl f13, .inl f14, .inl f15]) (G := [g0, g1, g2, g3, g4, g5, g6, g7, g8, g9, g10]) (G' := [g0, g1, g2, g3, g4, g5, g6, g7, g8, g9, g10]) (ρ := []) (φ := []) (ψ := []) [none, none, none, none, none, none, none, none, none, none, none, none, none, none, none, none] [none, none, none, none, none, none, none, none, none, none, none] zyw_X_columnOf zyw_Pilot_step zye_Pilot_step (by decide +kernel) (zt_X_columnOf hr1) trivial trivial rfl rfl rfl rfl rfl rfl rfl) zd153_1 zxt31 rfl (by decide) (by decide) rfl ?_
  refine zv_ist hB zd153_4 rfl rfl rfl ?_
  refine zv_ild hB zd153_6 rfl rfl ?_
  obtain ⟨r2, hr2, h⟩ := zi_bind h
  refine zv_cs hB (zv_emq (va2 := [.inl x3]) (F := [.inr 3, .inr 5, .inl f2, .inl f3, .inl f4, .inl f5, .inl f6, .inl f7, .inl f8, .inl f9, .inl f10, .inl f11, .inl f12, .inl f13, .inl f14, .inl f15]) (F' := [.inr 3, .inr 5, .inl f2, .inl f3, .inl f4, .inl f5, .inl f6, .inl f7, .inl f8, .inl f9, .inl f10, .inl f11, .inl f12, .inl f13, .inl f14, .inl f15]) (G := [g0, g1, g2, g3, g4, g5, g6, g7, g8, g9, g10]) (G' := [g0, g1, g2, g3, g4, g5, g6, g7, g8, g9, g10]) (ρ := []) (φ := []) (ψ := []) [none, none, none, none, none, none, none, none, none, none, none, none, none, none, none, none] [none, none, none, none, none, none, none, none, none, none, none] zyw_X_rowOf zyw_Pilot_step zye_Pilot_step (by decide +kernel) (zt_X_rowOf hr2) trivial trivial rfl rfl rfl rfl rfl rfl rfl) zd153_7 zxt30 rfl (by decide) (by decide) rfl ?_
  refine zv_ist hB zd153_10 rfl rfl rfl ?_
  refine zv_ald hB zd153_12 rfl rfl rfl ?_
  refine zv_ild hB zd153_13 rfl rfl ?_
  refine zv_ild hB zd153_15 rfl rfl ?_
  obtain ⟨r3, hr3, h⟩ := zi_bind h
  refine zv_cv hB (zv_emq (va2 := [.inr 1, .inl r1, .inl r2]) (F := [.inr 3, .inr 5, .inl f2, .inl f3, .inl f4, .inl f5, .inl f6, .inl f7, .inl f8, .inl f9, .inl f10, .inl f11, .inl f12, .inl f13, .inl f14, .inl f15]) (F' := [.inr 3, .inr 5, .inl r3.1, .inl r3.2.1, .inl f4, .inl f5, .inl f6, .inl f7, .inl f8, .inl f9, .inl f10, .inl f11, .inl f12, .inl f13, .inl f14, .inl f15]) (G := [g0, g1, g2, g3, g4, g5, g6, g7, g8, g9, g10]) (G' := [r3.2.2, g1, g2, g3, g4, g5, g6, g7, g8, g9, g10]) (ρ := [1, 3, 4, 5]) (φ := [2, 3, 0, 1, 4, 5]) (ψ := [0]) [some 2, some 3, some 0, some 1, some 4, some 5, none, none, none, none, none, none, none, none, none, none] [some 0, none, none, none, none, none, none, none, none, none, none] zyw_View_goTo zyw_Pilot_step zye_Pilot_step (by decide +kernel) (zt_View_goTo hr3) ⟨⟨_, rfl, fun _ => rfl⟩, ⟨_, rfl, fun _ => rfl⟩, ⟨_, rfl, fun _ => rfl⟩, ⟨_, rfl, fun _ => rfl⟩, ⟨_, rfl, fun _ => rfl⟩, ⟨_, rfl, fun _ => rfl⟩, trivial⟩ ⟨rfl, trivial⟩ rfl rfl rfl rfl rfl rfl rfl) zd153_17 zxt86 rfl (by decide) (by decide) rfl ?_
  refine zv_ald hB zd153_20 rfl rfl rfl ?_
  refine zv_ild hB zd153_21 rfl rfl ?_
  obtain ⟨r4, hr4, h⟩ := zi_bind h
  refine zv_cv hB (zv_emq (va2 := [.inr 1, .inl x4]) (F := [.inr 3, .inr 5, .inl r3.1, .inl r3.2.1, .inl f4, .inl f5, .inl f6, .inl f7, .inl f8, .inl f9, .inl f10, .inl f11, .inl f12, .inl f13, .inl f14, .inl f15]) (F' := [.inr 3, .inr 5, .inl r3.1, .inl r3.2.1, .inl f4, .inl f5, .inl f6, .inl f7, .inl f8, .inl f9, .inl f10, .inl r4.2.1, .inl r4.2.2.1, .inl f13, .inl r4.2.2.2.1, .inl f15]) (G := [r3.2.2, g1, g2, g3, g4, g5, g6, g7, g8, g9, g10]) (G' := [r4.2.2.2.2.1, g1, g2, g3, g4, g5, g6, g7, r4.2.2.2.2.2, g9, g10]) (ρ := [1, 5, 6, 7, 3, 4, 8, 9, 10, 11, 12, 13, 14]) (φ := [1, 6, 4, 2, 3, 7, 8, 9, 0, 10, 11, 12, 13, 14, 15]) (ψ := [1, 2, 0, 3, 4, 5, 6, 7, 8, 9]) [some 8, some 0, some 3, some 4, some 2, none, some 1, some 5, some 6, some 7, some 9, some 10, some 11, some 12, some 13, some 14] [some 2, some 0, some 1, some 3, some 4, some 5, some 6, some 7, some 8, some 9, none] zyw_View_sees zyw_Pilot_step zye_Pilot_step (by decide +kernel) (zt_View_sees hr4) ⟨⟨_, rfl, fun _ => rfl⟩, ⟨_, rfl, fun _ => rfl⟩, ⟨_, rfl, fun _ => rfl⟩, ⟨_, rfl, fun _ => rfl⟩, ⟨_, rfl, fun _ => rfl⟩, ⟨_, rfl, fun _ => rfl⟩, ⟨_, rfl, fun _ => rfl⟩, ⟨_, rfl, fun _ => rfl⟩, ⟨_, rfl, fun _ => rfl⟩, ⟨_, rfl, fun _ => rfl⟩, ⟨_, rfl, fun _ => rfl⟩, ⟨_, rfl, fun _ => rfl⟩, ⟨_, rfl, fun _ => rfl⟩, ⟨_, rfl, fun _ => rfl⟩, ⟨_, rfl, fun _ => rfl⟩, trivial⟩ ⟨rfl, rfl, rfl, rfl, rfl, rfl, rfl, rfl, rfl, rfl, trivial⟩ rfl rfl rfl rfl rfl rfl rfl) zd153_23 zxt89 rfl (by decide) (by decide) rfl ?_
  refine zv_zne hB zd153_26 rfl (fun hc5 => ?_) (fun hc5 => ?_)
  · rw [if_neg hc5] at h
    refine zv_ald hB zd153_31 rfl rfl rfl ?_
    refine zv_getq hB zd153_32 rfl rfl rfl ?_
    refine zv_ild hB zd153_35 rfl rfl ?_
    obtain ⟨r6, hr6, h⟩ := zi_bind h
    refine zv_cv hB (zv_emq (va2 := [.inr 5, .inl x4]) (F := [.inr 3, .inr 5, .inl r3.1, .inl r3.2.1, .inl f4, .inl f5, .inl f6, .inl f7, .inl f8, .inl f9, .inl f10, .inl r4.2.1, .inl r4.2.2.1, .inl f13, .inl r4.2.2.2.1, .inl f15]) (F' := [.inr 3, .inr 5, .inl r3.1, .inl r3.2.1, .inl f4, .inl f5, .inl f6, .inl f7, .inl f8, .inl f9, .inl f10, .inl r4.2.1, .inl r4.2.2.1, .inl f13, .inl r4.2.2.2.1, .inl f15]) (G := [r4.2.2.2.2.1, g1, g2, g3, g4, g5, g6, g7, r4.2.2.2.2.2, g9, g10]) (G' := [r4.2.2.2.2.1, g1, g2, g3, g4, g5, g6, g7, r4.2.2.2.2.2, g9, g10]) (ρ := [5, 6]) (φ := [4]) (ψ := [1]) [none, none, none, none, some 0, none, none, none, none, none, none, none, none, none, none, none] [none, some 0, none, none, none, none, none, none, none, none, none] zyw_Sky_standing zyw_Pilot_step zye_Pilot_step (by decide +kernel) (zt_Sky_standing hr6) ⟨⟨_, rfl, fun _ => rfl⟩, trivial⟩ ⟨rfl, trivial⟩ rfl rfl rfl rfl rfl rfl rfl) zd153_37 zxt82 rfl (by decide) (by decide) rfl ?_
    refine zv_ild hB zd153_40 rfl rfl ?_
    refine zv_subw hB zd153_42 ?_
    refine zv_con hB zd153_43 rfl ?_
    obtain ⟨r7, hr7, h⟩ := zi_bind h
    refine zv_cs hB (zv_emq (va2 := [.inl (zi_w (r6 - r1)), .inl 24]) (F := [.inr 3, .inr 5, .inl r3.1, .inl r3.2.1, .inl f4, .inl f5, .inl f6, .inl f7, .inl f8, .inl f9, .inl f10, .inl r4.2.1, .inl r4.2.2.1, .inl f13, .inl r4.2.2.2.1, .inl f15]) (F' := [.inr 3, .inr 5, .inl r3.1, .inl r3.2.1, .inl f4, .inl f5, .inl f6, .inl f7, .inl f8, .inl f9, .inl f10, .inl r4.2.1, .inl r4.2.2.1, .inl f13, .inl r4.2.2.2.1, .inl f15]) (G := [r4.2.2.2.2.1, g1, g2, g3, g4, g5, g6, g7, r4.2.2.2.2.2, g9, g10]) (G' := [r4.2.2.2.2.1, g1, g2, g3, g4, g5, g6, g7, r4.2.2.2.2.2, g9, g10]) (ρ := []) (φ := []) (ψ := []) [none, none, none, none, none, none, none, none, none, none, none, none, none, none, none, none] [none, none, none, none, none, none, none, none, none, none, none] zyw_Math_floorMod zyw_Pilot_step zye_Pilot_step (by decide +kernel) (zt_Math_floorMod hr7) trivial trivial rfl rfl rfl rfl rfl rfl rfl) zd153_45 zxt129 rfl (by decide) (by decide) rfl ?_
    refine zv_ist hB zd153_48 rfl rfl rfl ?_
    refine zv_ild hB zd153_50 rfl rfl ?_
    refine zv_con hB zd153_52 rfl ?_
    refine zv_ild hB zd153_54 rfl rfl ?_
    refine zv_subw hB zd153_56 ?_
    obtain ⟨r8, hr8, h⟩ := zi_bind h
    refine zv_cs hB (zv_emq (va2 := [.inl r7, .inl (zi_w (24 - r7))]) (F := [.inr 3, .inr 5, .inl r3.1, .inl r3.2.1, .inl f4, .inl f5, .inl f6, .inl f7, .inl f8, .inl f9, .inl f10, .inl r4.2.1, .inl r4.2.2.1, .inl f13, .inl r4.2.2.2.1, .inl f15]) (F' := [.inr 3, .inr 5, .inl r3.1, .inl r3.2.1, .inl f4, .inl f5, .inl f6, .inl f7, .inl f8, .inl f9, .inl f10, .inl r4.2.1, .inl r4.2.2.1, .inl f13, .inl r4.2.2.2.1, .inl f15]) (G := [r4.2.2.2.2.1, g1, g2, g3, g4, g5, g6, g7, r4.2.2.2.2.2, g9, g10]) (G' := [r4.2.2.2.2.1, g1, g2, g3, g4, g5, g6, g7, r4.2.2.2.2.2, g9, g10]) (ρ := []) (φ := []) (ψ := []) [none, none, none, none, none, none, none, none, none, none, none, none, none, none, none, none] [none, none, none, none, none, none, none, none, none, none, none] zyw_Math_min zyw_Pilot_step zye_Pilot_step (by decide +kernel) (zt_Math_min hr8) trivial trivial rfl rfl rfl rfl rfl rfl rfl) zd153_57 zxt37 rfl (by decide) (by decide) rfl ?_
    refine zv_ist hB zd153_60 rfl rfl rfl ?_
    refine zv_ald hB zd153_62 rfl rfl rfl ?_
    refine zv_getq hB zd153_63 rfl rfl rfl ?_
    refine zv_getr hB zd153_66 rfl ?_
    refine zv_ild hB zd153_69 rfl rfl ?_
    obtain ⟨c9, h⟩ := zi_if h
    refine zv_iald hB zd153_71 rfl rfl (zi_ix_ok c9).1 (zi_ix_ok c9).2 (fun _ _ => ?_)
    refine zv_ild hB zd153_72 rfl rfl ?_
    refine zv_subw hB zd153_74 ?_
    refine zv_ist hB zd153_75 rfl rfl rfl ?_
    refine zv_ild hB zd153_77 rfl rfl ?_
    refine zv_zne hB zd153_79 rfl (fun hc10 => ?_) (fun hc10 => ?_)
    · rw [if_neg hc10] at h
      refine zv_ild hB zd153_89 rfl rfl ?_
      refine zv_ild hB zd153_91 rfl rfl ?_
      obtain ⟨r11, hr11, h⟩ := zi_bind h
      refine zv_cs hB (zv_emq (va2 := [.inl (zi_w ((g2 x4) - r2))]) (F := [.inr 3, .inr 5, .inl r3.1, .inl r3.2.1, .inl f4, .inl f5, .inl f6, .inl f7, .inl f8, .inl f9, .inl f10, .inl r4.2.1, .inl r4.2.2.1, .inl f13, .inl r4.2.2.2.1, .inl f15]) (F' := [.inr 3, .inr 5, .inl r3.1, .inl r3.2.1, .inl f4, .inl f5, .inl f6, .inl f7, .inl f8, .inl f9, .inl f10, .inl r4.2.1, .inl r4.2.2.1, .inl f13, .inl r4.2.2.2.1, .inl f15]) (G := [r4.2.2.2.2.1, g1, g2, g3, g4, g5, g6, g7, r4.2.2.2.2.2, g9, g10]) (G' := [r4.2.2.2.2.1, g1, g2, g3, g4, g5, g6, g7, r4.2.2.2.2.2, g9, g10]) (ρ := []) (φ := []) (ψ := []) [none, none, none, none, none, none, none, none, none, none, none, none, none, none, none, none] [none, none, none, none, none, none, none, none, none, none, none] zyw_Math_abs zyw_Pilot_step zye_Pilot_step (by decide +kernel) (zt_Math_abs hr11) trivial trivial rfl rfl rfl rfl rfl rfl rfl) zd153_93 zxt91 rfl (by decide) (by decide) rfl ?_
      refine zv_clt hB zd153_96 rfl (fun hc12 => ?_) (fun hc12 => ?_)
      · rw [if_pos hc12] at h
        refine zv_ild hB zd153_116 rfl rfl ?_
        refine zv_zle hB zd153_118 rfl (fun hc13 => ?_) (fun hc13 => ?_)
        · rw [if_neg (Int.not_lt.mpr hc13)] at h
          refine zv_con hB zd153_125 rfl ?_
          refine zv_ist hB zd153_126 rfl rfl rfl ?_
          refine zv_ald hB zd153_128 rfl rfl rfl ?_
          refine zv_ild hB zd153_129 rfl rfl ?_
          refine zv_ild hB zd153_130 rfl rfl ?_
          obtain ⟨r14, hr14, h⟩ := zi_bind h
          refine zv_cv hB (zv_emq (va2 := [.inr 2, .inl x3, .inl 4]) (F := [.inr 3, .inr 5, .inl r3.1, .inl r3.2.1, .inl f4, .inl f5, .inl f6, .inl f7, .inl f8, .inl f9, .inl f10, .inl r4.2.1, .inl r4.2.2.1, .inl f13, .inl r4.2.2.2.1, .inl f15]) (F' := [.inr 3, .inr 5, .inl r3.1, .inl r3.2.1, .inl f4, .inl f5, .inl f6, .inl f7, .inl f8, .inl f9, .inl f10, .inl r4.2.1, .inl r4.2.2.1, .inl f13, .inl r4.2.2.2.1, .inl f15]) (G := [r4.2.2.2.2.1, g1, g2, g3, g4, g5, g6, g7, r4.2.2.2.2.2, g9, g10]) (G' := [r4.2.2.2.2.1, g1, g2, g3, g4, g5, g6, g7, r4.2.2.2.2.2, g9, g10]) (ρ := [2, 15]) (φ := []) (ψ := [10]) [none, none, none, none, none, none, none, none, none, none, none, none, none, none, none, none] [none, none, none, none, none, none, none, none, none, none, some 0] zyw_Sea_goFrom zyw_Pilot_step zye_Pilot_step (by decide +kernel) (zt_Sea_goFrom hr14) trivial ⟨rfl, trivial⟩ rfl rfl rfl rfl rfl rfl rfl) zd153_132 zxt154 rfl (by decide) (by decide) rfl ?_
          refine zv_ist hB zd153_135 rfl rfl rfl ?_
          refine zv_ild hB zd153_137 rfl rfl ?_
          refine zv_con hB zd153_139 rfl ?_
          refine zv_cne hB zd153_140 rfl (fun hc15 => ?_) (fun hc15 => ?_)
          · rw [if_neg hc15] at h
            refine zv_ild hB zd153_147 rfl rfl ?_
            have hw := Option.some.inj h
            subst hw
            exact hret _ _ _ _ _ zd153_149 (by trivial) ⟨rfl, rfl, rfl⟩
          · rw [if_pos hc15] at h
            refine zv_ild hB zd153_143 rfl rfl ?_
            refine zv_goto hB zd153_144 rfl ?_
            have hw := Option.some.inj h
            subst hw
            exact hret _ _ _ _ _ zd153_149 (by trivial) ⟨rfl, rfl, rfl⟩
        · rw [if_pos hc13] at h
          refine zv_con hB zd153_121 rfl ?_
          refine zv_goto hB zd153_122 rfl ?_
          refine zv_ist hB zd153_126 rfl rfl rfl ?_
          refine zv_ald hB zd153_128 rfl rfl rfl ?_
          refine zv_ild hB zd153_129 rfl rfl ?_
          refine zv_ild hB zd153_130 rfl rfl ?_
          obtain ⟨r16, hr16, h⟩ := zi_bind h
          refine zv_cv hB (zv_emq (va2 := [.inr 2, .inl x3, .inl 3]) (F := [.inr 3, .inr 5, .inl r3.1, .inl r3.2.1, .inl f4, .inl f5, .inl f6, .inl f7, .inl f8, .inl f9, .inl f10, .inl r4.2.1, .inl r4.2.2.1, .inl f13, .inl r4.2.2.2.1, .inl f15]) (F' := [.inr 3, .inr 5, .inl r3.1, .inl r3.2.1, .inl f4, .inl f5, .inl f6, .inl f7, .inl f8, .inl f9, .inl f10, .inl r4.2.1, .inl r4.2.2.1, .inl f13, .inl r4.2.2.2.1, .inl f15]) (G := [r4.2.2.2.2.1, g1, g2, g3, g4, g5, g6, g7, r4.2.2.2.2.2, g9, g10]) (G' := [r4.2.2.2.2.1, g1, g2, g3, g4, g5, g6, g7, r4.2.2.2.2.2, g9, g10]) (ρ := [2, 15]) (φ := []) (ψ := [10]) [none, none, none, none, none, none, none, none, none, none, none, none, none, none, none, none] [none, none, none, none, none, none, none, none, none, none, some 0] zyw_Sea_goFrom zyw_Pilot_step zye_Pilot_step (by decide +kernel) (zt_Sea_goFrom hr16) trivial ⟨rfl, trivial⟩ rfl rfl rfl rfl rfl rfl rfl) zd153_132 zxt154 rfl (by decide) (by decide) rfl ?_
          refine zv_ist hB zd153_135 rfl rfl rfl ?_
          refine zv_ild hB zd153_137 rfl rfl ?_
          refine zv_con hB zd153_139 rfl ?_
          refine zv_cne hB zd153_140 rfl (fun hc17 => ?_) (fun hc17 => ?_)
          · rw [if_neg hc17] at h
            refine zv_ild hB zd153_147 rfl rfl ?_
            have hw := Option.some.inj h
            subst hw
            exact hret _ _ _ _ _ zd153_149 (by trivial) ⟨rfl, rfl, rfl⟩
          · rw [if_pos hc17] at h
            refine zv_ild hB zd153_143 rfl rfl ?_
            refine zv_goto hB zd153_144 rfl ?_
            have hw := Option.some.inj h
            subst hw
            exact hret _ _ _ _ _ zd153_149 (by trivial) ⟨rfl, rfl, rfl⟩
      · rw [if_neg (Int.not_lt.mpr hc12)] at h
        refine zv_ild hB zd153_99 rfl rfl ?_
        refine zv_con hB zd153_101 rfl ?_
        refine zv_cgt hB zd153_103 rfl (fun hc18 => ?_) (fun hc18 => ?_)
        · rw [if_pos hc18] at h
          refine zv_con hB zd153_110 rfl ?_
          refine zv_ist hB zd153_111 rfl rfl rfl ?_
          refine zv_goto hB zd153_113 rfl ?_
          refine zv_ald hB zd153_128 rfl rfl rfl ?_
          refine zv_ild hB zd153_129 rfl rfl ?_
          refine zv_ild hB zd153_130 rfl rfl ?_
          obtain ⟨r19, hr19, h⟩ := zi_bind h
          refine zv_cv hB (zv_emq (va2 := [.inr 2, .inl x3, .inl 2]) (F := [.inr 3, .inr 5, .inl r3.1, .inl r3.2.1, .inl f4, .inl f5, .inl f6, .inl f7, .inl f8, .inl f9, .inl f10, .inl r4.2.1, .inl r4.2.2.1, .inl f13, .inl r4.2.2.2.1, .inl f15]) (F' := [.inr 3, .inr 5, .inl r3.1, .inl r3.2.1, .inl f4, .inl f5, .inl f6, .inl f7, .inl f8, .inl f9, .inl f10, .inl r4.2.1, .inl r4.2.2.1, .inl f13, .inl r4.2.2.2.1, .inl f15]) (G := [r4.2.2.2.2.1, g1, g2, g3, g4, g5, g6, g7, r4.2.2.2.2.2, g9, g10]) (G' := [r4.2.2.2.2.1, g1, g2, g3, g4, g5, g6, g7, r4.2.2.2.2.2, g9, g10]) (ρ := [2, 15]) (φ := []) (ψ := [10]) [none, none, none, none, none, none, none, none, none, none, none, none, none, none, none, none] [none, none, none, none, none, none, none, none, none, none, some 0] zyw_Sea_goFrom zyw_Pilot_step zye_Pilot_step (by decide +kernel) (zt_Sea_goFrom hr19) trivial ⟨rfl, trivial⟩ rfl rfl rfl rfl rfl rfl rfl) zd153_132 zxt154 rfl (by decide) (by decide) rfl ?_
          refine zv_ist hB zd153_135 rfl rfl rfl ?_
          refine zv_ild hB zd153_137 rfl rfl ?_
          refine zv_con hB zd153_139 rfl ?_
          refine zv_cne hB zd153_140 rfl (fun hc20 => ?_) (fun hc20 => ?_)
          · rw [if_neg hc20] at h
            refine zv_ild hB zd153_147 rfl rfl ?_
            have hw := Option.some.inj h
            subst hw
            exact hret _ _ _ _ _ zd153_149 (by trivial) ⟨rfl, rfl, rfl⟩
          · rw [if_pos hc20] at h
            refine zv_ild hB zd153_143 rfl rfl ?_
            refine zv_goto hB zd153_144 rfl ?_
            have hw := Option.some.inj h
            subst hw
            exact hret _ _ _ _ _ zd153_149 (by trivial) ⟨rfl, rfl, rfl⟩
        · rw [if_neg (Int.not_lt.mpr hc18)] at h
          refine zv_con hB zd153_106 rfl ?_
          refine zv_goto hB zd153_107 rfl ?_
          refine zv_ist hB zd153_111 rfl rfl rfl ?_
          refine zv_goto hB zd153_113 rfl ?_
          refine zv_ald hB zd153_128 rfl rfl rfl ?_
          refine zv_ild hB zd153_129 rfl rfl ?_
          refine zv_ild hB zd153_130 rfl rfl ?_
          obtain ⟨r21, hr21, h⟩ := zi_bind h
          refine zv_cv hB (zv_emq (va2 := [.inr 2, .inl x3, .inl 1]) (F := [.inr 3, .inr 5, .inl r3.1, .inl r3.2.1, .inl f4, .inl f5, .inl f6, .inl f7, .inl f8, .inl f9, .inl f10, .inl r4.2.1, .inl r4.2.2.1, .inl f13, .inl r4.2.2.2.1, .inl f15]) (F' := [.inr 3, .inr 5, .inl r3.1, .inl r3.2.1, .inl f4, .inl f5, .inl f6, .inl f7, .inl f8, .inl f9, .inl f10, .inl r4.2.1, .inl r4.2.2.1, .inl f13, .inl r4.2.2.2.1, .inl f15]) (G := [r4.2.2.2.2.1, g1, g2, g3, g4, g5, g6, g7, r4.2.2.2.2.2, g9, g10]) (G' := [r4.2.2.2.2.1, g1, g2, g3, g4, g5, g6, g7, r4.2.2.2.2.2, g9, g10]) (ρ := [2, 15]) (φ := []) (ψ := [10]) [none, none, none, none, none, none, none, none, none, none, none, none, none, none, none, none] [none, none, none, none, none, none, none, none, none, none, some 0] zyw_Sea_goFrom zyw_Pilot_step zye_Pilot_step (by decide +kernel) (zt_Sea_goFrom hr21) trivial ⟨rfl, trivial⟩ rfl rfl rfl rfl rfl rfl rfl) zd153_132 zxt154 rfl (by decide) (by decide) rfl ?_
          refine zv_ist hB zd153_135 rfl rfl rfl ?_
          refine zv_ild hB zd153_137 rfl rfl ?_
          refine zv_con hB zd153_139 rfl ?_
          refine zv_cne hB zd153_140 rfl (fun hc22 => ?_) (fun hc22 => ?_)
          · rw [if_neg hc22] at h
            refine zv_ild hB zd153_147 rfl rfl ?_
            have hw := Option.some.inj h
            subst hw
            exact hret _ _ _ _ _ zd153_149 (by trivial) ⟨rfl, rfl, rfl⟩
          · rw [if_pos hc22] at h
            refine zv_ild hB zd153_143 rfl rfl ?_
            refine zv_goto hB zd153_144 rfl ?_
            have hw := Option.some.inj h
            subst hw
            exact hret _ _ _ _ _ zd153_149 (by trivial) ⟨rfl, rfl, rfl⟩
    · rw [if_pos hc10] at h
      refine zv_ild hB zd153_82 rfl rfl ?_
      refine zv_zne hB zd153_84 rfl (fun hc23 => ?_) (fun hc23 => ?_)
      · rw [if_neg hc23] at h
        refine zv_ild hB zd153_89 rfl rfl ?_
        refine zv_ild hB zd153_91 rfl rfl ?_
        obtain ⟨r24, hr24, h⟩ := zi_bind h
        refine zv_cs hB (zv_emq (va2 := [.inl (zi_w ((g2 x4) - r2))]) (F := [.inr 3, .inr 5, .inl r3.1, .inl r3.2.1, .inl f4, .inl f5, .inl f6, .inl f7, .inl f8, .inl f9, .inl f10, .inl r4.2.1, .inl r4.2.2.1, .inl f13, .inl r4.2.2.2.1, .inl f15]) (F' := [.inr 3, .inr 5, .inl r3.1, .inl r3.2.1, .inl f4, .inl f5, .inl f6, .inl f7, .inl f8, .inl f9, .inl f10, .inl r4.2.1, .inl r4.2.2.1, .inl f13, .inl r4.2.2.2.1, .inl f15]) (G := [r4.2.2.2.2.1, g1, g2, g3, g4, g5, g6, g7, r4.2.2.2.2.2, g9, g10]) (G' := [r4.2.2.2.2.1, g1, g2, g3, g4, g5, g6, g7, r4.2.2.2.2.2, g9, g10]) (ρ := []) (φ := []) (ψ := []) [none, none, none, none, none, none, none, none, none, none, none, none, none, none, none, none] [none, none, none, none, none, none, none, none, none, none, none] zyw_Math_abs zyw_Pilot_step zye_Pilot_step (by decide +kernel) (zt_Math_abs hr24) trivial trivial rfl rfl rfl rfl rfl rfl rfl) zd153_93 zxt91 rfl (by decide) (by decide) rfl ?_
        refine zv_clt hB zd153_96 rfl (fun hc25 => ?_) (fun hc25 => ?_)
        · rw [if_pos hc25] at h
          refine zv_ild hB zd153_116 rfl rfl ?_
          refine zv_zle hB zd153_118 rfl (fun hc26 => ?_) (fun hc26 => ?_)
          · rw [if_neg (Int.not_lt.mpr hc26)] at h
            refine zv_con hB zd153_125 rfl ?_
            refine zv_ist hB zd153_126 rfl rfl rfl ?_
            refine zv_ald hB zd153_128 rfl rfl rfl ?_
            refine zv_ild hB zd153_129 rfl rfl ?_
            refine zv_ild hB zd153_130 rfl rfl ?_
            obtain ⟨r27, hr27, h⟩ := zi_bind h
            refine zv_cv hB (zv_emq (va2 := [.inr 2, .inl x3, .inl 4]) (F := [.inr 3, .inr 5, .inl r3.1, .inl r3.2.1, .inl f4, .inl f5, .inl f6, .inl f7, .inl f8, .inl f9, .inl f10, .inl r4.2.1, .inl r4.2.2.1, .inl f13, .inl r4.2.2.2.1, .inl f15]) (F' := [.inr 3, .inr 5, .inl r3.1, .inl r3.2.1, .inl f4, .inl f5, .inl f6, .inl f7, .inl f8, .inl f9, .inl f10, .inl r4.2.1, .inl r4.2.2.1, .inl f13, .inl r4.2.2.2.1, .inl f15]) (G := [r4.2.2.2.2.1, g1, g2, g3, g4, g5, g6, g7, r4.2.2.2.2.2, g9, g10]) (G' := [r4.2.2.2.2.1, g1, g2, g3, g4, g5, g6, g7, r4.2.2.2.2.2, g9, g10]) (ρ := [2, 15]) (φ := []) (ψ := [10]) [none, none, none, none, none, none, none, none, none, none, none, none, none, none, none, none] [none, none, none, none, none, none, none, none, none, none, some 0] zyw_Sea_goFrom zyw_Pilot_step zye_Pilot_step (by decide +kernel) (zt_Sea_goFrom hr27) trivial ⟨rfl, trivial⟩ rfl rfl rfl rfl rfl rfl rfl) zd153_132 zxt154 rfl (by decide) (by decide) rfl ?_
            refine zv_ist hB zd153_135 rfl rfl rfl ?_
            refine zv_ild hB zd153_137 rfl rfl ?_
            refine zv_con hB zd153_139 rfl ?_
            refine zv_cne hB zd153_140 rfl (fun hc28 => ?_) (fun hc28 => ?_)
            · rw [if_neg hc28] at h
              refine zv_ild hB zd153_147 rfl rfl ?_
              have hw := Option.some.inj h
              subst hw
              exact hret _ _ _ _ _ zd153_149 (by trivial) ⟨rfl, rfl, rfl⟩
            · rw [if_pos hc28] at h
              refine zv_ild hB zd153_143 rfl rfl ?_
              refine zv_goto hB zd153_144 rfl ?_
              have hw := Option.some.inj h
              subst hw
              exact hret _ _ _ _ _ zd153_149 (by trivial) ⟨rfl, rfl, rfl⟩
          · rw [if_pos hc26] at h
            refine zv_con hB zd153_121 rfl ?_
            refine zv_goto hB zd153_122 rfl ?_
            refine zv_ist hB zd153_126 rfl rfl rfl ?_
            refine zv_ald hB zd153_128 rfl rfl rfl ?_
            refine zv_ild hB zd153_129 rfl rfl ?_
            refine zv_ild hB zd153_130 rfl rfl ?_
            obtain ⟨r29, hr29, h⟩ := zi_bind h
            refine zv_cv hB (zv_emq (va2 := [.inr 2, .inl x3, .inl 3]) (F := [.inr 3, .inr 5, .inl r3.1, .inl r3.2.1, .inl f4, .inl f5, .inl f6, .inl f7, .inl f8, .inl f9, .inl f10, .inl r4.2.1, .inl r4.2.2.1, .inl f13, .inl r4.2.2.2.1, .inl f15]) (F' := [.inr 3, .inr 5, .inl r3.1, .inl r3.2.1, .inl f4, .inl f5, .inl f6, .inl f7, .inl f8, .inl f9, .inl f10, .inl r4.2.1, .inl r4.2.2.1, .inl f13, .inl r4.2.2.2.1, .inl f15]) (G := [r4.2.2.2.2.1, g1, g2, g3, g4, g5, g6, g7, r4.2.2.2.2.2, g9, g10]) (G' := [r4.2.2.2.2.1, g1, g2, g3, g4, g5, g6, g7, r4.2.2.2.2.2, g9, g10]) (ρ := [2, 15]) (φ := []) (ψ := [10]) [none, none, none, none, none, none, none, none, none, none, none, none, none, none, none, none] [none, none, none, none, none, none, none, none, none, none, some 0] zyw_Sea_goFrom zyw_Pilot_step zye_Pilot_step (by decide +kernel) (zt_Sea_goFrom hr29) trivial ⟨rfl, trivial⟩ rfl rfl rfl rfl rfl rfl rfl) zd153_132 zxt154 rfl (by decide) (by decide) rfl ?_
            refine zv_ist hB zd153_135 rfl rfl rfl ?_
            refine zv_ild hB zd153_137 rfl rfl ?_
            refine zv_con hB zd153_139 rfl ?_
            refine zv_cne hB zd153_140 rfl (fun hc30 => ?_) (fun hc30 => ?_)
            · rw [if_neg hc30] at h
              refine zv_ild hB zd153_147 rfl rfl ?_
              have hw := Option.some.inj h
              subst hw
              exact hret _ _ _ _ _ zd153_149 (by trivial) ⟨rfl, rfl, rfl⟩
            · rw [if_pos hc30] at h
              refine zv_ild hB zd153_143 rfl rfl ?_
              refine zv_goto hB zd153_144 rfl ?_
              have hw := Option.some.inj h
              subst hw
              exact hret _ _ _ _ _ zd153_149 (by trivial) ⟨rfl, rfl, rfl⟩
        · rw [if_neg (Int.not_lt.mpr hc25)] at h
          refine zv_ild hB zd153_99 rfl rfl ?_
          refine zv_con hB zd153_101 rfl ?_
          refine zv_cgt hB zd153_103 rfl (fun hc31 => ?_) (fun hc31 => ?_)
          · rw [if_pos hc31] at h
            refine zv_con hB zd153_110 rfl ?_
            refine zv_ist hB zd153_111 rfl rfl rfl ?_
            refine zv_goto hB zd153_113 rfl ?_
            refine zv_ald hB zd153_128 rfl rfl rfl ?_
            refine zv_ild hB zd153_129 rfl rfl ?_
            refine zv_ild hB zd153_130 rfl rfl ?_
            obtain ⟨r32, hr32, h⟩ := zi_bind h
            refine zv_cv hB (zv_emq (va2 := [.inr 2, .inl x3, .inl 2]) (F := [.inr 3, .inr 5, .inl r3.1, .inl r3.2.1, .inl f4, .inl f5, .inl f6, .inl f7, .inl f8, .inl f9, .inl f10, .inl r4.2.1, .inl r4.2.2.1, .inl f13, .inl r4.2.2.2.1, .inl f15]) (F' := [.inr 3, .inr 5, .inl r3.1, .inl r3.2.1, .inl f4, .inl f5, .inl f6, .inl f7, .inl f8, .inl f9, .inl f10, .inl r4.2.1, .inl r4.2.2.1, .inl f13, .inl r4.2.2.2.1, .inl f15]) (G := [r4.2.2.2.2.1, g1, g2, g3, g4, g5, g6, g7, r4.2.2.2.2.2, g9, g10]) (G' := [r4.2.2.2.2.1, g1, g2, g3, g4, g5, g6, g7, r4.2.2.2.2.2, g9, g10]) (ρ := [2, 15]) (φ := []) (ψ := [10]) [none, none, none, none, none, none, none, none, none, none, none, none, none, none, none, none] [none, none, none, none, none, none, none, none, none, none, some 0] zyw_Sea_goFrom zyw_Pilot_step zye_Pilot_step (by decide +kernel) (zt_Sea_goFrom hr32) trivial ⟨rfl, trivial⟩ rfl rfl rfl rfl rfl rfl rfl) zd153_132 zxt154 rfl (by decide) (by decide) rfl ?_
            refine zv_ist hB zd153_135 rfl rfl rfl ?_
            refine zv_ild hB zd153_137 rfl rfl ?_
            refine zv_con hB zd153_139 rfl ?_
            refine zv_cne hB zd153_140 rfl (fun hc33 => ?_) (fun hc33 => ?_)
            · rw [if_neg hc33] at h
              refine zv_ild hB zd153_147 rfl rfl ?_
              have hw := Option.some.inj h
              subst hw
              exact hret _ _ _ _ _ zd153_149 (by trivial) ⟨rfl, rfl, rfl⟩
            · rw [if_pos hc33] at h
              refine zv_ild hB zd153_143 rfl rfl ?_
              refine zv_goto hB zd153_144 rfl ?_
              have hw := Option.some.inj h
              subst hw
              exact hret _ _ _ _ _ zd153_149 (by trivial) ⟨rfl, rfl, rfl⟩
          · rw [if_neg (Int.not_lt.mpr hc31)] at h
            refine zv_con hB zd153_106 rfl ?_
            refine zv_goto hB zd153_107 rfl ?_
            refine zv_ist hB zd153_111 rfl rfl rfl ?_
            refine zv_goto hB zd153_113 rfl ?_
            refine zv_ald hB zd153_128 rfl rfl rfl ?_
            refine zv_ild hB zd153_129 rfl rfl ?_
            refine zv_ild hB zd153_130 rfl rfl ?_
            obtain ⟨r34, hr34, h⟩ := zi_bind h
            refine zv_cv hB (zv_emq (va2 := [.inr 2, .inl x3, .inl 1]) (F := [.inr 3, .inr 5, .inl r3.1, .inl r3.2.1, .inl f4, .inl f5, .inl f6, .inl f7, .inl f8, .inl f9, .inl f10, .inl r4.2.1, .inl r4.2.2.1, .inl f13, .inl r4.2.2.2.1, .inl f15]) (F' := [.inr 3, .inr 5, .inl r3.1, .inl r3.2.1, .inl f4, .inl f5, .inl f6, .inl f7, .inl f8, .inl f9, .inl f10, .inl r4.2.1, .inl r4.2.2.1, .inl f13, .inl r4.2.2.2.1, .inl f15]) (G := [r4.2.2.2.2.1, g1, g2, g3, g4, g5, g6, g7, r4.2.2.2.2.2, g9, g10]) (G' := [r4.2.2.2.2.1, g1, g2, g3, g4, g5, g6, g7, r4.2.2.2.2.2, g9, g10]) (ρ := [2, 15]) (φ := []) (ψ := [10]) [none, none, none, none, none, none, none, none, none, none, none, none, none, none, none, none] [none, none, none, none, none, none, none, none, none, none, some 0] zyw_Sea_goFrom zyw_Pilot_step zye_Pilot_step (by decide +kernel) (zt_Sea_goFrom hr34) trivial ⟨rfl, trivial⟩ rfl rfl rfl rfl rfl rfl rfl) zd153_132 zxt154 rfl (by decide) (by decide) rfl ?_
            refine zv_ist hB zd153_135 rfl rfl rfl ?_
            refine zv_ild hB zd153_137 rfl rfl ?_
            refine zv_con hB zd153_139 rfl ?_
            refine zv_cne hB zd153_140 rfl (fun hc35 => ?_) (fun hc35 => ?_)
            · rw [if_neg hc35] at h
              refine zv_ild hB zd153_147 rfl rfl ?_
              have hw := Option.some.inj h
              subst hw
              exact hret _ _ _ _ _ zd153_149 (by trivial) ⟨rfl, rfl, rfl⟩
            · rw [if_pos hc35] at h
              refine zv_ild hB zd153_143 rfl rfl ?_
              refine zv_goto hB zd153_144 rfl ?_
              have hw := Option.some.inj h
              subst hw
              exact hret _ _ _ _ _ zd153_149 (by trivial) ⟨rfl, rfl, rfl⟩
      · rw [if_pos hc23] at h
        refine zv_ild hB zd153_87 rfl rfl ?_
        have hw := Option.some.inj h
        subst hw
        exact hret _ _ _ _ _ zd153_88 (by trivial) ⟨rfl, rfl, rfl⟩
  · rw [if_pos hc5] at h
    refine zv_ild hB zd153_29 rfl rfl ?_
    have hw := Option.some.inj h
    subst hw
    exact hret _ _ _ _ _ zd153_30 (by trivial) ⟨rfl, rfl, rfl⟩
/-! Sky_columnNextNight (I)I -/
-- names: 0 Sky('arg', 0), 1 (0, 24)(0, 1, 1), 2 (0, 24)(0, 1, 4)
-- fields: ; arrays: g0 = 1, g1 = 2; out: [('ret', None)]
abbrev zy_Sky_columnNextNight : zNL := (3, [(0, 1)], [], [(0, 1, 1, 1), (0, 1, 4, 2)], [(1, 0, 24, 0), (2, 0, 24, 1)])
theorem zyw_Sky_columnNextNight : zv_wf zy_Sky_columnNextNight = true := by decide +kernel
theorem zye_Sky_columnNextNight : zv_ek2 zy_Sky_columnNextNight = true := by decide +kernel
def zf_Sky_columnNextNight (x1 : Int) (g0 : (Int → Int)) (g1 : (Int → Int)) : Option (Int) := cond (zi_ix x1 24) ((zf_Math_floorMod (zi_w ((g0 x1) + (g1 x1))) 24).bind fun r2 => (some r2)) none
theorem zd157_0 : decode zxm157.2.1 0 = .ok (.aload_n 0, 1) := by decide +kernel
theorem zd157_1 : decode zxm157.2.1 1 = .ok (.getfield 15, 3) := by decide +kernel
theorem zd157_4 : decode zxm157.2.1 4 = .ok (.iload_n 1, 1) := by decide +kernel
theorem zd157_5 : decode zxm157.2.1 5 = .ok (.iaload, 1) := by decide +kernel
theorem zd157_6 : decode zxm157.2.1 6 = .ok (.aload_n 0, 1) := by decide +kernel
theorem zd157_7 : decode zxm157.2.1 7 = .ok (.getfield 25, 3) := by decide +kernel
theorem zd157_10 : decode zxm157.2.1 10 = .ok (.iload_n 1, 1) := by decide +kernel
theorem zd157_11 : decode zxm157.2.1 11 = .ok (.iaload, 1) := by decide +kernel
theorem zd157_12 : decode zxm157.2.1 12 = .ok (.iadd, 1) := by decide +kernel
theorem zd157_13 : decode zxm157.2.1 13 = .ok (.bipush 24, 2) := by decide +kernel
theorem zd157_15 : decode zxm157.2.1 15 = .ok (.invokestatic 49, 3) := by decide +kernel
theorem zd157_18 : decode zxm157.2.1 18 = .ok (.ireturn, 1) := by decide +kernel
theorem zt_Sky_columnNextNight {x1 : Int} {g0 : (Int → Int)} {g1 : (Int → Int)} {o : Int} (h : zf_Sky_columnNextNight x1 g0 g1 = some o) : zv_Fn z_TB z_cl z_KX zy_Sky_columnNextNight zxm157 (1, 60) [.inr 0, .inl x1] [] [g0, g1] (some o) [] [g0, g1] := zv_meth (K := (z_KF8, z_KC8, z_KL8, z_KT8, [], [], [], none)) (FT := z_FT) (MT := z_MT) (n := 2) zxp157 (z_ks8 _ (fun _ h => List.mem_cons_of_mem _ h) _ _ _ _ (fun j r h _ => by cases h)) (fun _ _ => zs_KX_p) zyw_Sky_columnNextNight (fun va F G h => by obtain ⟨rfl, _⟩ := h; rfl) (fun va F G h => by obtain ⟨rfl, _⟩ := h; rfl) rfl fun good va F G hB hret hvret hP => by
  obtain ⟨rfl, rfl, rfl⟩ := hP
  unfold zf_Sky_columnNextNight at h
  refine zv_ald hB zd157_0 rfl rfl rfl ?_
  refine zv_getr hB zd157_1 rfl ?_
  refine zv_ild hB zd157_4 rfl rfl ?_
  obtain ⟨c1, h⟩ := zi_if h
  refine zv_iald hB zd157_5 rfl rfl (zi_ix_ok c1).1 (zi_ix_ok c1).2 (fun _ _ => ?_)
  refine zv_ald hB zd157_6 rfl rfl rfl ?_
  refine zv_getr hB zd157_7 rfl ?_
  refine zv_ild hB zd157_10 rfl rfl ?_
  refine zv_iald hB zd157_11 rfl rfl (zi_ix_ok c1).1 (zi_ix_ok c1).2 (fun _ _ => ?_)
  refine zv_addw hB zd157_12 ?_
  refine zv_con hB zd157_13 rfl ?_
  obtain ⟨r2, hr2, h⟩ := zi_bind h
  refine zv_cs hB (zv_emq (va2 := [.inl (zi_w ((g0 x1) + (g1 x1))), .inl 24]) (F := []) (F' := []) (G := [g0, g1]) (G' := [g0, g1]) (ρ := []) (φ := []) (ψ := []) [] [none, none] zyw_Math_floorMod zyw_Sky_columnNextNight zye_Sky_columnNextNight (by decide +kernel) (zt_Math_floorMod hr2) trivial trivial rfl rfl rfl rfl rfl rfl rfl) zd157_15 zxt129 rfl (by decide) (by decide) rfl ?_
  have hw := Option.some.inj h
  subst hw
  exact hret _ _ _ _ _ zd157_18 (by trivial) ⟨rfl, rfl, rfl⟩
/-! Sky_rowNextNight (I)I -/
-- names: 0 Sky('arg', 0), 1 (0, 24)(0, 1, 2), 2 (0, 24)(0, 1, 5)
-- fields: ; arrays: g0 = 1, g1 = 2; out: [('ret', None)]
abbrev zy_Sky_rowNextNight : zNL := (3, [(0, 1)], [], [(0, 1, 2, 1), (0, 1, 5, 2)], [(1, 0, 24, 0), (2, 0, 24, 1)])
theorem zyw_Sky_rowNextNight : zv_wf zy_Sky_rowNextNight = true := by decide +kernel
theorem zye_Sky_rowNextNight : zv_ek2 zy_Sky_rowNextNight = true := by decide +kernel
def zf_Sky_rowNextNight (x1 : Int) (g0 : (Int → Int)) (g1 : (Int → Int)) : Option (Int) := cond (zi_ix x1 24) ((zf_Math_min 11 (zi_w ((g0 x1) + (g1 x1)))).bind fun r2 => ((zf_Math_max 0 r2).bind fun r3 => (some r3))) none
theorem zd158_0 : decode zxm158.2.1 0 = .ok (.iconst 0, 1) := by decide +kernel
theorem zd158_1 : decode zxm158.2.1 1 = .ok (.bipush 11, 2) := by decide +kernel
theorem zd158_3 : decode zxm158.2.1 3 = .ok (.aload_n 0, 1) := by decide +kernel
theorem zd158_4 : decode zxm158.2.1 4 = .ok (.getfield 19, 3) := by decide +kernel
theorem zd158_7 : decode zxm158.2.1 7 = .ok (.iload_n 1, 1) := by decide +kernel
theorem zd158_8 : decode zxm158.2.1 8 = .ok (.iaload, 1) := by decide +kernel
theorem zd158_9 : decode zxm158.2.1 9 = .ok (.aload_n 0, 1) := by decide +kernel
theorem zd158_10 : decode zxm158.2.1 10 = .ok (.getfield 28, 3) := by decide +kernel
theorem zd158_13 : decode zxm158.2.1 13 = .ok (.iload_n 1, 1) := by decide +kernel
theorem zd158_14 : decode zxm158.2.1 14 = .ok (.iaload, 1) := by decide +kernel
theorem zd158_15 : decode zxm158.2.1 15 = .ok (.iadd, 1) := by decide +kernel
theorem zd158_16 : decode zxm158.2.1 16 = .ok (.invokestatic 55, 3) := by decide +kernel
theorem zd158_19 : decode zxm158.2.1 19 = .ok (.invokestatic 58, 3) := by decide +kernel
theorem zd158_22 : decode zxm158.2.1 22 = .ok (.ireturn, 1) := by decide +kernel
theorem zt_Sky_rowNextNight {x1 : Int} {g0 : (Int → Int)} {g1 : (Int → Int)} {o : Int} (h : zf_Sky_rowNextNight x1 g0 g1 = some o) : zv_Fn z_TB z_cl z_KX zy_Sky_rowNextNight zxm158 (1, 60) [.inr 0, .inl x1] [] [g0, g1] (some o) [] [g0, g1] := zv_meth (K := (z_KF8, z_KC8, z_KL8, z_KT8, [], [], [], none)) (FT := z_FT) (MT := z_MT) (n := 2) zxp158 (z_ks8 _ (fun _ h => List.mem_cons_of_mem _ h) _ _ _ _ (fun j r h _ => by cases h)) (fun _ _ => zs_KX_p) zyw_Sky_rowNextNight (fun va F G h => by obtain ⟨rfl, _⟩ := h; rfl) (fun va F G h => by obtain ⟨rfl, _⟩ := h; rfl) rfl fun good va F G hB hret hvret hP => by
  obtain ⟨rfl, rfl, rfl⟩ := hP
  unfold zf_Sky_rowNextNight at h
  refine zv_con hB zd158_0 rfl ?_
  refine zv_con hB zd158_1 rfl ?_
  refine zv_ald hB zd158_3 rfl rfl rfl ?_
  refine zv_getr hB zd158_4 rfl ?_
  refine zv_ild hB zd158_7 rfl rfl ?_
  obtain ⟨c1, h⟩ := zi_if h
  refine zv_iald hB zd158_8 rfl rfl (zi_ix_ok c1).1 (zi_ix_ok c1).2 (fun _ _ => ?_)
  refine zv_ald hB zd158_9 rfl rfl rfl ?_
  refine zv_getr hB zd158_10 rfl ?_
  refine zv_ild hB zd158_13 rfl rfl ?_
  refine zv_iald hB zd158_14 rfl rfl (zi_ix_ok c1).1 (zi_ix_ok c1).2 (fun _ _ => ?_)
  refine zv_addw hB zd158_15 ?_
  obtain ⟨r2, hr2, h⟩ := zi_bind h
  refine zv_cs hB (zv_emq (va2 := [.inl 11, .inl (zi_w ((g0 x1) + (g1 x1)))]) (F := []) (F' := []) (G := [g0, g1]) (G' := [g0, g1]) (ρ := []) (φ := []) (ψ := []) [] [none, none] zyw_Math_min zyw_Sky_rowNextNight zye_Sky_rowNextNight (by decide +kernel) (zt_Math_min hr2) trivial trivial rfl rfl rfl rfl rfl rfl rfl) zd158_16 zxt37 rfl (by decide) (by decide) rfl ?_
  obtain ⟨r3, hr3, h⟩ := zi_bind h
  refine zv_cs hB (zv_emq (va2 := [.inl 0, .inl r2]) (F := []) (F' := []) (G := [g0, g1]) (G' := [g0, g1]) (ρ := []) (φ := []) (ψ := []) [] [none, none] zyw_Math_max zyw_Sky_rowNextNight zye_Sky_rowNextNight (by decide +kernel) (zt_Math_max hr3) trivial trivial rfl rfl rfl rfl rfl rfl rfl) zd158_19 zxt55 rfl (by decide) (by decide) rfl ?_
  have hw := Option.some.inj h
  subst hw
  exact hret _ _ _ _ _ zd158_22 (by trivial) ⟨rfl, rfl, rfl⟩
/-! Sky_beginNight ()V -/
-- names: 0 Sky('arg', 0), 1 (0, 24)(0, 1, 1), 2 (0, 24)(0, 1, 4), 3 (0, 24)(0, 1, 2), 4 (0, 24)(0, 1, 5)
-- fields: f0 = 0.night_; arrays: g0 = 1, g1 = 2, g2 = 3, g3 = 4; out: [('f', 0), ('g', 0), ('g', 2)]
abbrev zy_Sky_beginNight : zNL := (5, [(0, 1)], [(0, 1, 7, 0)], [(0, 1, 1, 1), (0, 1, 4, 2), (0, 1, 2, 3), (0, 1, 5, 4)], [(1, 0, 24, 0), (2, 0, 24, 1), (3, 0, 24, 2), (4, 0, 24, 3)])
theorem zyw_Sky_beginNight : zv_wf zy_Sky_beginNight = true := by decide +kernel
theorem zye_Sky_beginNight : zv_ek2 zy_Sky_beginNight = true := by decide +kernel
def zf_Sky_beginNight_l0_b (g1 : (Int → Int)) (g3 : (Int → Int)) (rec : Int → (Int → Int) → (Int → Int) → Option ((Int → Int) × (Int → Int))) (x1 : Int) (g0 : (Int → Int)) (g2 : (Int → Int)) : Option ((Int → Int) × (Int → Int)) := if x1 < 24 then ((zf_Sky_columnNextNight x1 g0 g1).bind fun r2 => (cond (zi_ix x1 24) ((zf_Sky_rowNextNight x1 g2 g3).bind fun r4 => (rec (zi_w (x1 + 1)) (zv_up g0 x1 r2) (zv_up g2 x1 r4))) none)) else (some (g0, g2))
def zf_Sky_beginNight_l0 (g1 : (Int → Int)) (g3 : (Int → Int)) : Nat → Int → (Int → Int) → (Int → Int) → Option ((Int → Int) × (Int → Int))
  | 0, _, _, _ => none
  | n + 1, x1, g0, g2 => zf_Sky_beginNight_l0_b g1 g3 (zf_Sky_beginNight_l0 g1 g3 n) x1 g0 g2
def zf_Sky_beginNight (f0 : Int) (g0 : (Int → Int)) (g1 : (Int → Int)) (g2 : (Int → Int)) (g3 : (Int → Int)) : Option (Int × (Int → Int) × (Int → Int)) := (zf_Sky_beginNight_l0 g1 g3 zi_fu 0 g0 g2).bind fun q5 => (some ((zi_w (f0 + 1)), q5.1, q5.2))
theorem zd156_0 : decode zxm156.2.1 0 = .ok (.aload_n 0, 1) := by decide +kernel
theorem zd156_1 : decode zxm156.2.1 1 = .ok (.dup, 1) := by decide +kernel
theorem zd156_2 : decode zxm156.2.1 2 = .ok (.getfield 34, 3) := by decide +kernel
theorem zd156_5 : decode zxm156.2.1 5 = .ok (.iconst 1, 1) := by decide +kernel
theorem zd156_6 : decode zxm156.2.1 6 = .ok (.iadd, 1) := by decide +kernel
theorem zd156_7 : decode zxm156.2.1 7 = .ok (.putfield 34, 3) := by decide +kernel
theorem zd156_10 : decode zxm156.2.1 10 = .ok (.iconst 0, 1) := by decide +kernel
theorem zd156_11 : decode zxm156.2.1 11 = .ok (.istore_n 1, 1) := by decide +kernel
theorem zd156_12 : decode zxm156.2.1 12 = .ok (.iload_n 1, 1) := by decide +kernel
theorem zd156_13 : decode zxm156.2.1 13 = .ok (.bipush 24, 2) := by decide +kernel
theorem zd156_15 : decode zxm156.2.1 15 = .ok (.if_icmp .ge 31, 3) := by decide +kernel
theorem zd156_18 : decode zxm156.2.1 18 = .ok (.aload_n 0, 1) := by decide +kernel
theorem zd156_19 : decode zxm156.2.1 19 = .ok (.getfield 15, 3) := by decide +kernel
theorem zd156_22 : decode zxm156.2.1 22 = .ok (.iload_n 1, 1) := by decide +kernel
theorem zd156_23 : decode zxm156.2.1 23 = .ok (.aload_n 0, 1) := by decide +kernel
theorem zd156_24 : decode zxm156.2.1 24 = .ok (.iload_n 1, 1) := by decide +kernel
theorem zd156_25 : decode zxm156.2.1 25 = .ok (.invokevirtual 61, 3) := by decide +kernel
theorem zd156_28 : decode zxm156.2.1 28 = .ok (.iastore, 1) := by decide +kernel
theorem zd156_29 : decode zxm156.2.1 29 = .ok (.aload_n 0, 1) := by decide +kernel
theorem zd156_30 : decode zxm156.2.1 30 = .ok (.getfield 19, 3) := by decide +kernel
theorem zd156_33 : decode zxm156.2.1 33 = .ok (.iload_n 1, 1) := by decide +kernel
theorem zd156_34 : decode zxm156.2.1 34 = .ok (.aload_n 0, 1) := by decide +kernel
theorem zd156_35 : decode zxm156.2.1 35 = .ok (.iload_n 1, 1) := by decide +kernel
theorem zd156_36 : decode zxm156.2.1 36 = .ok (.invokevirtual 65, 3) := by decide +kernel
theorem zd156_39 : decode zxm156.2.1 39 = .ok (.iastore, 1) := by decide +kernel
theorem zd156_40 : decode zxm156.2.1 40 = .ok (.iinc 1 1, 3) := by decide +kernel
theorem zd156_43 : decode zxm156.2.1 43 = .ok (.goto (-31), 3) := by decide +kernel
theorem zd156_46 : decode zxm156.2.1 46 = .ok (.return_, 1) := by decide +kernel
theorem zt_Sky_beginNight {f0 : Int} {g0 : (Int → Int)} {g1 : (Int → Int)} {g2 : (Int → Int)} {g3 : (Int → Int)} {o : Int × (Int → Int) × (Int → Int)} (h : zf_Sky_beginNight f0 g0 g1 g2 g3 = some o) : zv_Fn z_TB z_cl z_KX zy_Sky_beginNight zxm156 (2, 120) [.inr 0] [.inl f0] [g0, g1, g2, g3] none [.inl o.1] [o.2.1, g1, o.2.2, g3] := zv_meth (K := (z_KF8, z_KC8, z_KL8, z_KT8, [], [], [], none)) (FT := z_FT) (MT := z_MT) (n := 1) zxp156 (z_ks8 _ (fun _ h => List.mem_cons_of_mem _ h) _ _ _ _ (fun j r h _ => by cases h)) (fun _ _ => zs_KX_p) zyw_Sky_beginNight (fun va F G h => by obtain ⟨rfl, _⟩ := h; rfl) (fun va F G h => by obtain ⟨rfl, _⟩ := h; rfl) rfl fun good va F G hB hret hvret hP => by
  obtain ⟨rfl, rfl, rfl⟩ := hP
  have l0 : ∀ (n : Nat) (x1 : Int) (f0 : Int) (g0 : (Int → Int)) (g2 : (Int → Int)) (q : (Int → Int) × (Int → Int)), zf_Sky_beginNight_l0 g1 g3 n x1 g0 g2 = some q → (good 46 [.inr 1000, .inr 1000] [] [.inl f0] [q.1, g1, q.2, g3]) → good 12 [.inr 0, .inl x1] [] [.inl f0] [g0, g1, g2, g3] := by
    intro n
    induction n with
    | zero => intro x1 f0 g0 g2 q h; exact absurd (show none = some q from h) (fun h => by cases h)
    | succ n ih =>
      intro x1 f0 g0 g2 q h hK
      replace h : zf_Sky_beginNight_l0_b g1 g3 (zf_Sky_beginNight_l0 g1 g3 n) x1 g0 g2 = some q := h
      unfold zf_Sky_beginNight_l0_b at h
      refine zv_ild hB zd156_12 rfl rfl ?_
      refine zv_con hB zd156_13 rfl ?_
      refine zv_cge hB zd156_15 rfl (fun hc1 => ?_) (fun hc1 => ?_)
      · rw [if_neg (Int.not_lt.mpr hc1)] at h
        have hq := Option.some.inj h
        subst hq
        refine zv_wk hB (L' := [.inr 1000, .inr 1000]) (F' := [.inl f0]) ⟨fun (h : zv_is (.inr 1000)) => (Nat.lt_irrefl 1000 h).elim, fun (h : zv_is (.inr 1000)) => (Nat.lt_irrefl 1000 h).elim, trivial⟩ ⟨fun _ => rfl, trivial⟩ ?_
        exact hK
      · rw [if_pos hc1] at h
        refine zv_ald hB zd156_18 rfl rfl rfl ?_
        refine zv_getr hB zd156_19 rfl ?_
        refine zv_ild hB zd156_22 rfl rfl ?_
        refine zv_ald hB zd156_23 rfl rfl rfl ?_
        refine zv_ild hB zd156_24 rfl rfl ?_
        obtain ⟨r2, hr2, h⟩ := zi_bind h
        refine zv_cv hB (zv_emq (va2 := [.inr 0, .inl x1]) (F := [.inl f0]) (F' := [.inl f0]) (G := [g0, g1, g2, g3]) (G' := [g0, g1, g2, g3]) (ρ := [0, 1, 2]) (φ := []) (ψ := [0, 1]) [none] [some 0, some 1, none, none] zyw_Sky_columnNextNight zyw_Sky_beginNight zye_Sky_beginNight (by decide +kernel) (zt_Sky_columnNextNight hr2) trivial ⟨rfl, rfl, trivial⟩ rfl rfl rfl rfl rfl rfl rfl) zd156_25 zxt157 rfl (by decide) (by decide) rfl ?_
        obtain ⟨c3, h⟩ := zi_if h
        refine zv_iast hB zd156_28 rfl rfl (zi_ix_ok c3).1 (zi_ix_ok c3).2 ?_
        refine zv_ald hB zd156_29 rfl rfl rfl ?_
        refine zv_getr hB zd156_30 rfl ?_
        refine zv_ild hB zd156_33 rfl rfl ?_
        refine zv_ald hB zd156_34 rfl rfl rfl ?_
        refine zv_ild hB zd156_35 rfl rfl ?_
        obtain ⟨r4, hr4, h⟩ := zi_bind h
        refine zv_cv hB (zv_emq (va2 := [.inr 0, .inl x1]) (F := [.inl f0]) (F' := [.inl f0]) (G := [(zv_up g0 x1 r2), g1, g2, g3]) (G' := [(zv_up g0 x1 r2), g1, g2, g3]) (ρ := [0, 3, 4]) (φ := []) (ψ := [2, 3]) [none] [none, none, some 0, some 1] zyw_Sky_rowNextNight zyw_Sky_beginNight zye_Sky_beginNight (by decide +kernel) (zt_Sky_rowNextNight hr4) trivial ⟨rfl, rfl, trivial⟩ rfl rfl rfl rfl rfl rfl rfl) zd156_36 zxt158 rfl (by decide) (by decide) rfl ?_
        refine zv_iast hB zd156_39 rfl rfl (zi_ix_ok c3).1 (zi_ix_ok c3).2 ?_
        refine zv_iincw hB zd156_40 rfl rfl ?_
        refine zv_goto hB zd156_43 rfl ?_
        exact ih _ _ _ _ q h hK
  unfold zf_Sky_beginNight at h
  refine zv_ald hB zd156_0 rfl rfl rfl ?_
  refine zv_dup hB zd156_1 rfl ?_
  refine zv_getf hB zd156_2 rfl rfl (fun _ _ => ?_)
  refine zv_con hB zd156_5 rfl ?_
  refine zv_addw hB zd156_6 ?_
  refine zv_putf hB zd156_7 rfl rfl (fun h => by cases h) rfl ?_
  refine zv_con hB zd156_10 rfl ?_
  refine zv_ist hB zd156_11 rfl rfl rfl ?_
  obtain ⟨q5, hq5, h⟩ := zi_bind h
  refine l0 _ _ _ _ _ q5 hq5 ?_
  show good 46 [.inr 1000, .inr 1000] [] [.inl (zi_w (f0 + 1))] [q5.1, g1, q5.2, g3]
  have hw := Option.some.inj h
  subst hw
  exact hvret _ _ _ _ zd156_46 trivial ⟨rfl, rfl, rfl⟩
/-! Sky_passHour ()V -/
-- names: 0 Sky('arg', 0), 1 (0, 24)(0, 1, 1), 2 (0, 24)(0, 1, 4), 3 (0, 24)(0, 1, 2), 4 (0, 24)(0, 1, 5)
-- fields: f0 = 0.hour_, f1 = 0.night_; arrays: g0 = 1, g1 = 2, g2 = 3, g3 = 4; out: [('f', 0), ('f', 1), ('g', 0), ('g', 2)]
abbrev zy_Sky_passHour : zNL := (5, [(0, 1)], [(0, 1, 6, 0), (0, 1, 7, 1)], [(0, 1, 1, 1), (0, 1, 4, 2), (0, 1, 2, 3), (0, 1, 5, 4)], [(1, 0, 24, 0), (2, 0, 24, 1), (3, 0, 24, 2), (4, 0, 24, 3)])
theorem zyw_Sky_passHour : zv_wf zy_Sky_passHour = true := by decide +kernel
theorem zye_Sky_passHour : zv_ek2 zy_Sky_passHour = true := by decide +kernel
def zf_Sky_passHour (f0 : Int) (f1 : Int) (g0 : (Int → Int)) (g1 : (Int → Int)) (g2 : (Int → Int)) (g3 : (Int → Int)) : Option (Int × Int × (Int → Int) × (Int → Int)) := if (zi_w (f0 + 1)) = 24 then ((zf_Sky_beginNight f1 g0 g1 g2 g3).bind fun r2 => (some (0, r2.1, r2.2.1, r2.2.2))) else (some ((zi_w (f0 + 1)), f1, g0, g2))
theorem zd155_0 : decode zxm155.2.1 0 = .ok (.aload_n 0, 1) := by decide +kernel
theorem zd155_1 : decode zxm155.2.1 1 = .ok (.dup, 1) := by decide +kernel
theorem zd155_2 : decode zxm155.2.1 2 = .ok (.getfield 31, 3) := by decide +kernel
theorem zd155_5 : decode zxm155.2.1 5 = .ok (.iconst 1, 1) := by decide +kernel
theorem zd155_6 : decode zxm155.2.1 6 = .ok (.iadd, 1) := by decide +kernel
theorem zd155_7 : decode zxm155.2.1 7 = .ok (.putfield 31, 3) := by decide +kernel
theorem zd155_10 : decode zxm155.2.1 10 = .ok (.aload_n 0, 1) := by decide +kernel
theorem zd155_11 : decode zxm155.2.1 11 = .ok (.getfield 31, 3) := by decide +kernel
theorem zd155_14 : decode zxm155.2.1 14 = .ok (.bipush 24, 2) := by decide +kernel
theorem zd155_16 : decode zxm155.2.1 16 = .ok (.if_icmp .ne 12, 3) := by decide +kernel
theorem zd155_19 : decode zxm155.2.1 19 = .ok (.aload_n 0, 1) := by decide +kernel
theorem zd155_20 : decode zxm155.2.1 20 = .ok (.iconst 0, 1) := by decide +kernel
theorem zd155_21 : decode zxm155.2.1 21 = .ok (.putfield 31, 3) := by decide +kernel
theorem zd155_24 : decode zxm155.2.1 24 = .ok (.aload_n 0, 1) := by decide +kernel
theorem zd155_25 : decode zxm155.2.1 25 = .ok (.invokevirtual 68, 3) := by decide +kernel
theorem zd155_28 : decode zxm155.2.1 28 = .ok (.return_, 1) := by decide +kernel
theorem zt_Sky_passHour {f0 : Int} {f1 : Int} {g0 : (Int → Int)} {g1 : (Int → Int)} {g2 : (Int → Int)} {g3 : (Int → Int)} {o : Int × Int × (Int → Int) × (Int → Int)} (h : zf_Sky_passHour f0 f1 g0 g1 g2 g3 = some o) : zv_Fn z_TB z_cl z_KX zy_Sky_passHour zxm155 (3, 180) [.inr 0] [.inl f0, .inl f1] [g0, g1, g2, g3] none [.inl o.1, .inl o.2.1] [o.2.2.1, g1, o.2.2.2, g3] := zv_meth (K := (z_KF8, z_KC8, z_KL8, z_KT8, [], [], [], none)) (FT := z_FT) (MT := z_MT) (n := 1) zxp155 (z_ks8 _ (fun _ h => List.mem_cons_of_mem _ h) _ _ _ _ (fun j r h _ => by cases h)) (fun _ _ => zs_KX_p) zyw_Sky_passHour (fun va F G h => by obtain ⟨rfl, _⟩ := h; rfl) (fun va F G h => by obtain ⟨rfl, _⟩ := h; rfl) rfl fun good va F G hB hret hvret hP => by
  obtain ⟨rfl, rfl, rfl⟩ := hP
  unfold zf_Sky_passHour at h
  refine zv_ald hB zd155_0 rfl rfl rfl ?_
  refine zv_dup hB zd155_1 rfl ?_
  refine zv_getf hB zd155_2 rfl rfl (fun _ _ => ?_)
  refine zv_con hB zd155_5 rfl ?_
  refine zv_addw hB zd155_6 ?_
  refine zv_putf hB zd155_7 rfl rfl (fun h => by cases h) rfl ?_
  refine zv_ald hB zd155_10 rfl rfl rfl ?_
  refine zv_getf hB zd155_11 rfl rfl (fun _ _ => ?_)
  refine zv_con hB zd155_14 rfl ?_
  refine zv_cne hB zd155_16 rfl (fun hc1 => ?_) (fun hc1 => ?_)
  · rw [if_neg hc1] at h
    have hw := Option.some.inj h
    subst hw
    exact hvret _ _ _ _ zd155_28 trivial ⟨rfl, rfl, rfl⟩
  · rw [if_pos hc1] at h
    refine zv_ald hB zd155_19 rfl rfl rfl ?_
    refine zv_con hB zd155_20 rfl ?_
    refine zv_putf hB zd155_21 rfl rfl (fun h => by cases h) rfl ?_
    refine zv_ald hB zd155_24 rfl rfl rfl ?_
    obtain ⟨r2, hr2, h⟩ := zi_bind h
    refine zv_cv hB (zv_emq (va2 := [.inr 0]) (F := [.inl 0, .inl f1]) (F' := [.inl 0, .inl r2.1]) (G := [g0, g1, g2, g3]) (G' := [r2.2.1, g1, r2.2.2, g3]) (ρ := [0, 1, 2, 3, 4]) (φ := [1]) (ψ := [0, 1, 2, 3]) [none, some 0] [some 0, some 1, some 2, some 3] zyw_Sky_beginNight zyw_Sky_passHour zye_Sky_passHour (by decide +kernel) (zt_Sky_beginNight hr2) ⟨⟨_, rfl, fun _ => rfl⟩, trivial⟩ ⟨rfl, rfl, rfl, rfl, trivial⟩ rfl rfl rfl rfl rfl rfl rfl) zd155_25 zxt156 rfl (by decide) (by decide) rfl ?_
    have hw := Option.some.inj h
    subst hw
    exact hvret _ _ _ _ zd155_28 trivial ⟨rfl, rfl, rfl⟩
