/-! Methods as functions, and that they do what these do. -/
/-! X_known (II)I -/
-- names: 0 StarTales('arg', 0), 1 Tape(0, 0, 6), 2 View(0, 0, 12), 3 Sky(0, 0, 0), 4 Law(0, 0, 7), 5 (0, 24)(2, 7, 8), 6 Patches(0, 0, 16), 7 (0, 12)(6, 10, 2), 8 (0, 220)(1, 3, 0), 9 (0, 13)(4, 4, 12), 10 (0, 24)(3, 1, 1), 11 (0, 24)(3, 1, 2), 12 (0, 24)(3, 1, 3), 13 (0, 14)(4, 4, 3), 14 (0, 14)(4, 4, 5), 15 (0, 14)(4, 4, 6), 16 (0, 200)(4, 4, 0), 17 (0, 40)(4, 4, 13), 18 (0, 200)(4, 4, 1), 19 (0, 24)(6, 10, 4), 20 Sky(6, 10, 6), 21 (0, 24)(20, 1, 1), 22 (0, 24)(20, 1, 2), 23 (0, 24)(20, 1, 3)
-- fields: f0 = 1.size_, f1 = 0.ruling_, f2 = 2.sky_, f3 = 2.law_, f4 = 2.starsAsked_, f5 = 6.toldParts_, f6 = 2.x_, f7 = 2.y_, f8 = 3.hour_, f9 = 3.night_, f10 = 2.shown_, f11 = 3.told_, f12 = 3.sightColumns_, f13 = 3.sightRows_, f14 = 3.clouds_, f15 = 4.tellsSeen_, f16 = 2.starsHold_, f17 = 4.clauses_, f18 = 4.answer_, f19 = 4.seenByPlace_, f20 = 20.hour_; arrays: g0 = 5, g1 = 7, g2 = 8, g3 = 9, g4 = 10, g5 = 11, g6 = 12, g7 = 13, g8 = 14, g9 = 15, g10 = 16, g11 = 17, g12 = 18, g13 = 19, g14 = 21, g15 = 22, g16 = 23; out: [('ret', None), ('f', 0), ('f', 4), ('f', 5), ('f', 6), ('f', 7), ('f', 10), ('f', 16), ('f', 18), ('g', 0), ('g', 1), ('g', 3), ('g', 11), ('g', 13)]
abbrev zy_X_known : zNL := (24, [(0, 0), (1, 3), (2, 7), (3, 1), (4, 4), (6, 10), (20, 1)], [(1, 3, 1, 0), (0, 0, 7, 1), (2, 7, 0, 2), (2, 7, 1, 3), (2, 7, 6, 4), (6, 10, 3, 5), (2, 7, 2, 6), (2, 7, 3, 7), (3, 1, 6, 8), (3, 1, 7, 9), (2, 7, 4, 10), (3, 1, 0, 11), (3, 1, 9, 12), (3, 1, 10, 13), (3, 1, 8, 14), (4, 4, 8, 15), (2, 7, 7, 16), (4, 4, 7, 17), (4, 4, 14, 18), (4, 4, 10, 19), (20, 1, 6, 20)], [(0, 0, 6, 1), (0, 0, 12, 2), (0, 0, 0, 3), (2, 7, 8, 5), (0, 0, 16, 6), (6, 10, 2, 7), (1, 3, 0, 8), (4, 4, 12, 9), (3, 1, 1, 10), (3, 1, 2, 11), (3, 1, 3, 12), (4, 4, 3, 13), (4, 4, 5, 14), (4, 4, 6, 15), (4, 4, 0, 16), (4, 4, 13, 17), (4, 4, 1, 18), (6, 10, 4, 19), (6, 10, 6, 20), (20, 1, 1, 21), (20, 1, 2, 22), (20, 1, 3, 23)], [(5, 0, 24, 0), (7, 0, 12, 1), (8, 0, 220, 2), (9, 0, 13, 3), (10, 0, 24, 4), (11, 0, 24, 5), (12, 0, 24, 6), (13, 0, 14, 7), (14, 0, 14, 8), (15, 0, 14, 9), (16, 0, 200, 10), (17, 0, 40, 11), (18, 0, 200, 12), (19, 0, 24, 13), (21, 0, 24, 14), (22, 0, 24, 15), (23, 0, 24, 16)])
theorem zyw_X_known : zv_wf zy_X_known = true := by decide +kernel
theorem zye_X_known : zv_ek2 zy_X_known = true := by decide +kernel
def zf_X_known_l0_b (x2 : Int) (f0 : Int) (f5 : Int) (f8 : Int) (f9 : Int) (f11 : Int) (f12 : Int) (f13 : Int) (f14 : Int) (f15 : Int) (f17 : Int) (f19 : Int) (f20 : Int) (g0 : (Int → Int)) (g1 : (Int → Int)) (g4 : (Int → Int)) (g5 : (Int → Int)) (g6 : (Int → Int)) (g7 : (Int → Int)) (g8 : (Int → Int)) (g9 : (Int → Int)) (g10 : (Int → Int)) (g12 : (Int → Int)) (g14 : (Int → Int)) (g15 : (Int → Int)) (g16 : (Int → Int)) (rec : Int → Int → Int → Int → Int → Int → Int → Int → (Int → Int) → (Int → Int) → (Int → Int) → Option (((Int × Int × Int × Int × Int × Int × Int × (Int → Int) × (Int → Int) × (Int → Int)) ⊕ (Int × Int × Int × Int × Int × Int × Int × Int × Int × (Int → Int) × (Int → Int) × (Int → Int) × (Int → Int) × (Int → Int))))) (x3 : Int) (x4 : Int) (f4 : Int) (f6 : Int) (f7 : Int) (f10 : Int) (f16 : Int) (f18 : Int) (g3 : (Int → Int)) (g11 : (Int → Int)) (g13 : (Int → Int)) : Option (((Int × Int × Int × Int × Int × Int × Int × (Int → Int) × (Int → Int) × (Int → Int)) ⊕ (Int × Int × Int × Int × Int × Int × Int × Int × Int × (Int → Int) × (Int → Int) × (Int → Int) × (Int → Int) × (Int → Int)))) := if x4 < 288 then ((zf_X_columnOf x4).bind fun r10 => ((zf_X_rowOf x4).bind fun r11 => ((zf_View_look r10 r11 f6 f7 f8 f9 f10 f11 f12 f13 f14 f15 f4 f16 f17 f18 f19 g3 g4 g5 g6 g7 g8 g9 g10 g11 g12).bind fun r12 => (if x2 < 2 then ((zf_Patches_isKnown 0 r12.2.2.1 r12.1 r12.2.1 f20 f5 g13 g14 g15 g16 g1).bind fun r14 => (if r14.1 = 0 then (rec x3 (zi_w (x4 + 1)) r12.2.2.2.1 r12.1 r12.2.1 r12.2.2.1 r12.2.2.2.2.1 r12.2.2.2.2.2.1 r12.2.2.2.2.2.2.1 r12.2.2.2.2.2.2.2 r14.2) else (if (zi_rem x2 2) = 1 then (some (.inr (x4, f0, r12.2.2.2.1, f5, r12.1, r12.2.1, r12.2.2.1, r12.2.2.2.2.1, r12.2.2.2.2.2.1, g0, g1, r12.2.2.2.2.2.2.1, r12.2.2.2.2.2.2.2, r14.2))) else (rec (zi_w (x3 + 1)) (zi_w (x4 + 1)) r12.2.2.2.1 r12.1 r12.2.1 r12.2.2.1 r12.2.2.2.2.1 r12.2.2.2.2.2.1 r12.2.2.2.2.2.2.1 r12.2.2.2.2.2.2.2 r14.2)))) else ((zf_Patches_isKnown 1 r12.2.2.1 r12.1 r12.2.1 f20 f5 g13 g14 g15 g16 g1).bind fun r17 => (if r17.1 = 0 then (rec x3 (zi_w (x4 + 1)) r12.2.2.2.1 r12.1 r12.2.1 r12.2.2.1 r12.2.2.2.2.1 r12.2.2.2.2.2.1 r12.2.2.2.2.2.2.1 r12.2.2.2.2.2.2.2 r17.2) else (if (zi_rem x2 2) = 1 then (some (.inr (x4, f0, r12.2.2.2.1, f5, r12.1, r12.2.1, r12.2.2.1, r12.2.2.2.2.1, r12.2.2.2.2.2.1, g0, g1, r12.2.2.2.2.2.2.1, r12.2.2.2.2.2.2.2, r17.2))) else (rec (zi_w (x3 + 1)) (zi_w (x4 + 1)) r12.2.2.2.1 r12.1 r12.2.1 r12.2.2.1 r12.2.2.2.2.1 r12.2.2.2.2.2.1 r12.2.2.2.2.2.2.1 r12.2.2.2.2.2.2.2 r17.2)))))))) else (some (.inl (x3, f4, f6, f7, f10, f16, f18, g3, g11, g13)))
def zf_X_known_l0 (x2 : Int) (f0 : Int) (f5 : Int) (f8 : Int) (f9 : Int) (f11 : Int) (f12 : Int) (f13 : Int) (f14 : Int) (f15 : Int) (f17 : Int) (f19 : Int) (f20 : Int) (g0 : (Int → Int)) (g1 : (Int → Int)) (g4 : (Int → Int)) (g5 : (Int → Int)) (g6 : (Int → Int)) (g7 : (Int → Int)) (g8 : (Int → Int)) (g9 : (Int → Int)) (g10 : (Int → Int)) (g12 : (Int → Int)) (g14 : (Int → Int)) (g15 : (Int → Int)) (g16 : (Int → Int)) : Nat → Int → Int → Int → Int → Int → Int → Int → Int → (Int → Int) → (Int → Int) → (Int → Int) → Option (((Int × Int × Int × Int × Int × Int × Int × (Int → Int) × (Int → Int) × (Int → Int)) ⊕ (Int × Int × Int × Int × Int × Int × Int × Int × Int × (Int → Int) × (Int → Int) × (Int → Int) × (Int → Int) × (Int → Int))))
  | 0, _, _, _, _, _, _, _, _, _, _, _ => none
  | n + 1, x3, x4, f4, f6, f7, f10, f16, f18, g3, g11, g13 => zf_X_known_l0_b x2 f0 f5 f8 f9 f11 f12 f13 f14 f15 f17 f19 f20 g0 g1 g4 g5 g6 g7 g8 g9 g10 g12 g14 g15 g16 (zf_X_known_l0 x2 f0 f5 f8 f9 f11 f12 f13 f14 f15 f17 f19 f20 g0 g1 g4 g5 g6 g7 g8 g9 g10 g12 g14 g15 g16 n) x3 x4 f4 f6 f7 f10 f16 f18 g3 g11 g13
def zf_X_known (x1 : Int) (x2 : Int) (f0 : Int) (f4 : Int) (f5 : Int) (f6 : Int) (f7 : Int) (f8 : Int) (f9 : Int) (f10 : Int) (f11 : Int) (f12 : Int) (f13 : Int) (f14 : Int) (f15 : Int) (f16 : Int) (f17 : Int) (f18 : Int) (f19 : Int) (f20 : Int) (g0 : (Int → Int)) (g1 : (Int → Int)) (g2 : (Int → Int)) (g3 : (Int → Int)) (g4 : (Int → Int)) (g5 : (Int → Int)) (g6 : (Int → Int)) (g7 : (Int → Int)) (g8 : (Int → Int)) (g9 : (Int → Int)) (g10 : (Int → Int)) (g11 : (Int → Int)) (g12 : (Int → Int)) (g13 : (Int → Int)) (g14 : (Int → Int)) (g15 : (Int → Int)) (g16 : (Int → Int)) : Option (Int × Int × Int × Int × Int × Int × Int × Int × Int × (Int → Int) × (Int → Int) × (Int → Int) × (Int → Int) × (Int → Int)) := (zf_X_isWithin x1 1 12).bind fun r1 => (if r1 = 0 then (some ((-1), f0, f4, f5, f6, f7, f10, f16, f18, g0, g1, g3, g11, g13)) else ((zf_X_isWithin x2 0 3).bind fun r3 => (if r3 = 0 then (some ((-1), f0, f4, f5, f6, f7, f10, f16, f18, g0, g1, g3, g11, g13)) else ((zf_Tape_take (zi_w (3 * x1)) f0).bind fun r5 => (if r5.1 = 0 then (some ((-1), r5.2, f4, f5, f6, f7, f10, f16, f18, g0, g1, g3, g11, g13)) else ((zf_View_open f4 g0).bind fun r7 => ((zf_Patches_takeParts x1 f5 g1 g2).bind fun r8 => ((zf_X_known_l0 x2 r5.2 r8.1 f8 f9 f11 f12 f13 f14 f15 f17 f19 f20 r7.2 r8.2 g4 g5 g6 g7 g8 g9 g10 g12 g14 g15 g16 zi_fu 0 0 r7.1 f6 f7 f10 f16 f18 g3 g11 g13).bind fun q20 => Sum.elim (fun e21 => (if (zi_rem x2 2) = 1 then (some ((-2), r5.2, e21.2.1, r8.1, e21.2.2.1, e21.2.2.2.1, e21.2.2.2.2.1, e21.2.2.2.2.2.1, e21.2.2.2.2.2.2.1, r7.2, r8.2, e21.2.2.2.2.2.2.2.1, e21.2.2.2.2.2.2.2.2.1, e21.2.2.2.2.2.2.2.2.2)) else (some (e21.1, r5.2, e21.2.1, r8.1, e21.2.2.1, e21.2.2.2.1, e21.2.2.2.2.1, e21.2.2.2.2.2.1, e21.2.2.2.2.2.2.1, r7.2, r8.2, e21.2.2.2.2.2.2.2.1, e21.2.2.2.2.2.2.2.2.1, e21.2.2.2.2.2.2.2.2.2)))) (fun w23 => some w23) q20))))))))
theorem zd136_0 : decode zxm136.2.1 0 = .ok (.iload_n 1, 1) := by decide +kernel
theorem zd136_1 : decode zxm136.2.1 1 = .ok (.iconst 1, 1) := by decide +kernel
theorem zd136_2 : decode zxm136.2.1 2 = .ok (.bipush 12, 2) := by decide +kernel
theorem zd136_4 : decode zxm136.2.1 4 = .ok (.invokestatic 126, 3) := by decide +kernel
theorem zd136_7 : decode zxm136.2.1 7 = .ok (.ifCond .eq 25, 3) := by decide +kernel
theorem zd136_10 : decode zxm136.2.1 10 = .ok (.iload_n 2, 1) := by decide +kernel
theorem zd136_11 : decode zxm136.2.1 11 = .ok (.iconst 0, 1) := by decide +kernel
theorem zd136_12 : decode zxm136.2.1 12 = .ok (.iconst 3, 1) := by decide +kernel
theorem zd136_13 : decode zxm136.2.1 13 = .ok (.invokestatic 126, 3) := by decide +kernel
theorem zd136_16 : decode zxm136.2.1 16 = .ok (.ifCond .eq 16, 3) := by decide +kernel
theorem zd136_19 : decode zxm136.2.1 19 = .ok (.aload_n 0, 1) := by decide +kernel
theorem zd136_20 : decode zxm136.2.1 20 = .ok (.getfield 39, 3) := by decide +kernel
theorem zd136_23 : decode zxm136.2.1 23 = .ok (.iconst 3, 1) := by decide +kernel
theorem zd136_24 : decode zxm136.2.1 24 = .ok (.iload_n 1, 1) := by decide +kernel
theorem zd136_25 : decode zxm136.2.1 25 = .ok (.imul, 1) := by decide +kernel
theorem zd136_26 : decode zxm136.2.1 26 = .ok (.invokevirtual 197, 3) := by decide +kernel
theorem zd136_29 : decode zxm136.2.1 29 = .ok (.ifCond .ne 5, 3) := by decide +kernel
theorem zd136_32 : decode zxm136.2.1 32 = .ok (.iconst (-1), 1) := by decide +kernel
theorem zd136_33 : decode zxm136.2.1 33 = .ok (.ireturn, 1) := by decide +kernel
theorem zd136_34 : decode zxm136.2.1 34 = .ok (.aload_n 0, 1) := by decide +kernel
theorem zd136_35 : decode zxm136.2.1 35 = .ok (.getfield 81, 3) := by decide +kernel
theorem zd136_38 : decode zxm136.2.1 38 = .ok (.aload_n 0, 1) := by decide +kernel
theorem zd136_39 : decode zxm136.2.1 39 = .ok (.getfield 10, 3) := by decide +kernel
theorem zd136_42 : decode zxm136.2.1 42 = .ok (.aload_n 0, 1) := by decide +kernel
theorem zd136_43 : decode zxm136.2.1 43 = .ok (.getfield 46, 3) := by decide +kernel
theorem zd136_46 : decode zxm136.2.1 46 = .ok (.invokevirtual 211, 3) := by decide +kernel
theorem zd136_49 : decode zxm136.2.1 49 = .ok (.aload_n 0, 1) := by decide +kernel
theorem zd136_50 : decode zxm136.2.1 50 = .ok (.getfield 112, 3) := by decide +kernel
theorem zd136_53 : decode zxm136.2.1 53 = .ok (.aload_n 0, 1) := by decide +kernel
theorem zd136_54 : decode zxm136.2.1 54 = .ok (.getfield 39, 3) := by decide +kernel
theorem zd136_57 : decode zxm136.2.1 57 = .ok (.iload_n 1, 1) := by decide +kernel
theorem zd136_58 : decode zxm136.2.1 58 = .ok (.invokevirtual 289, 3) := by decide +kernel
theorem zd136_61 : decode zxm136.2.1 61 = .ok (.iconst 0, 1) := by decide +kernel
theorem zd136_62 : decode zxm136.2.1 62 = .ok (.istore_n 3, 1) := by decide +kernel
theorem zd136_63 : decode zxm136.2.1 63 = .ok (.iconst 0, 1) := by decide +kernel
theorem zd136_64 : decode zxm136.2.1 64 = .ok (.istore 4, 2) := by decide +kernel
theorem zd136_66 : decode zxm136.2.1 66 = .ok (.iload 4, 2) := by decide +kernel
theorem zd136_68 : decode zxm136.2.1 68 = .ok (.sipush 288, 3) := by decide +kernel
theorem zd136_71 : decode zxm136.2.1 71 = .ok (.if_icmp .ge 63, 3) := by decide +kernel
theorem zd136_74 : decode zxm136.2.1 74 = .ok (.aload_n 0, 1) := by decide +kernel
theorem zd136_75 : decode zxm136.2.1 75 = .ok (.getfield 81, 3) := by decide +kernel
theorem zd136_78 : decode zxm136.2.1 78 = .ok (.iload 4, 2) := by decide +kernel
theorem zd136_80 : decode zxm136.2.1 80 = .ok (.invokestatic 293, 3) := by decide +kernel
theorem zd136_83 : decode zxm136.2.1 83 = .ok (.iload 4, 2) := by decide +kernel
theorem zd136_85 : decode zxm136.2.1 85 = .ok (.invokestatic 296, 3) := by decide +kernel
theorem zd136_88 : decode zxm136.2.1 88 = .ok (.invokevirtual 214, 3) := by decide +kernel
theorem zd136_91 : decode zxm136.2.1 91 = .ok (.aload_n 0, 1) := by decide +kernel
theorem zd136_92 : decode zxm136.2.1 92 = .ok (.getfield 112, 3) := by decide +kernel
theorem zd136_95 : decode zxm136.2.1 95 = .ok (.aload_n 0, 1) := by decide +kernel
theorem zd136_96 : decode zxm136.2.1 96 = .ok (.getfield 81, 3) := by decide +kernel
theorem zd136_99 : decode zxm136.2.1 99 = .ok (.iload_n 2, 1) := by decide +kernel
theorem zd136_100 : decode zxm136.2.1 100 = .ok (.iconst 2, 1) := by decide +kernel
theorem zd136_101 : decode zxm136.2.1 101 = .ok (.if_icmp .lt 7, 3) := by decide +kernel
theorem zd136_104 : decode zxm136.2.1 104 = .ok (.iconst 1, 1) := by decide +kernel
theorem zd136_105 : decode zxm136.2.1 105 = .ok (.goto 4, 3) := by decide +kernel
theorem zd136_108 : decode zxm136.2.1 108 = .ok (.iconst 0, 1) := by decide +kernel
theorem zd136_109 : decode zxm136.2.1 109 = .ok (.invokevirtual 299, 3) := by decide +kernel
theorem zd136_112 : decode zxm136.2.1 112 = .ok (.ifCond .eq 16, 3) := by decide +kernel
theorem zd136_115 : decode zxm136.2.1 115 = .ok (.iload_n 2, 1) := by decide +kernel
theorem zd136_116 : decode zxm136.2.1 116 = .ok (.iconst 2, 1) := by decide +kernel
theorem zd136_117 : decode zxm136.2.1 117 = .ok (.irem, 1) := by decide +kernel
theorem zd136_118 : decode zxm136.2.1 118 = .ok (.iconst 1, 1) := by decide +kernel
theorem zd136_119 : decode zxm136.2.1 119 = .ok (.if_icmp .ne 6, 3) := by decide +kernel
theorem zd136_122 : decode zxm136.2.1 122 = .ok (.iload 4, 2) := by decide +kernel
theorem zd136_124 : decode zxm136.2.1 124 = .ok (.ireturn, 1) := by decide +kernel
theorem zd136_125 : decode zxm136.2.1 125 = .ok (.iinc 3 1, 3) := by decide +kernel
theorem zd136_128 : decode zxm136.2.1 128 = .ok (.iinc 4 1, 3) := by decide +kernel
theorem zd136_131 : decode zxm136.2.1 131 = .ok (.goto (-65), 3) := by decide +kernel
theorem zd136_134 : decode zxm136.2.1 134 = .ok (.iload_n 2, 1) := by decide +kernel
theorem zd136_135 : decode zxm136.2.1 135 = .ok (.iconst 2, 1) := by decide +kernel
theorem zd136_136 : decode zxm136.2.1 136 = .ok (.irem, 1) := by decide +kernel
theorem zd136_137 : decode zxm136.2.1 137 = .ok (.iconst 1, 1) := by decide +kernel
theorem zd136_138 : decode zxm136.2.1 138 = .ok (.if_icmp .ne 8, 3) := by decide +kernel
theorem zd136_141 : decode zxm136.2.1 141 = .ok (.bipush (-2), 2) := by decide +kernel
theorem zd136_143 : decode zxm136.2.1 143 = .ok (.goto 4, 3) := by decide +kernel
theorem zd136_146 : decode zxm136.2.1 146 = .ok (.iload_n 3, 1) := by decide +kernel
theorem zd136_147 : decode zxm136.2.1 147 = .ok (.ireturn, 1) := by decide +kernel
theorem zt_X_known {x1 : Int} {x2 : Int} {f0 : Int} {f4 : Int} {f5 : Int} {f6 : Int} {f7 : Int} {f8 : Int} {f9 : Int} {f10 : Int} {f11 : Int} {f12 : Int} {f13 : Int} {f14 : Int} {f15 : Int} {f16 : Int} {f17 : Int} {f18 : Int} {f19 : Int} {f20 : Int} {g0 : (Int → Int)} {g1 : (Int → Int)} {g2 : (Int → Int)} {g3 : (Int → Int)} {g4 : (Int → Int)} {g5 : (Int → Int)} {g6 : (Int → Int)} {g7 : (Int → Int)} {g8 : (Int → Int)} {g9 : (Int → Int)} {g10 : (Int → Int)} {g11 : (Int → Int)} {g12 : (Int → Int)} {g13 : (Int → Int)} {g14 : (Int → Int)} {g15 : (Int → Int)} {g16 : (Int → Int)} {o : Int × Int × Int × Int × Int × Int × Int × Int × Int × (Int → Int) × (Int → Int) × (Int → Int) × (Int → Int) × (Int → Int)} (h : zf_X_known x1 x2 f0 f4 f5 f6 f7 f8 f9 f10 f11 f12 f13 f14 f15 f16 f17 f18 f19 f20 g0 g1 g2 g3 g4 g5 g6 g7 g8 g9 g10 g11 g12 g13 g14 g15 g16 = some o) : zv_Fn z_TB z_cl z_KX zy_X_known zxm136 (5, 300) [.inr 0, .inl x1, .inl x2] [.inl f0, .inr 4, .inr 1000, .inr 1000, .inl f4, .inl f5, .inl f6, .inl f7, .inl f8, .inl f9, .inl f10, .inl f11, .inl f12, .inl f13, .inl f14, .inl f15, .inl f16, .inl f17, .inl f18, .inl f19, .inl f20] [g0, g1, g2, g3, g4, g5, g6, g7, g8, g9, g10, g11, g12, g13, g14, g15, g16] (some o.1) [.inl o.2.1, .inr 4, .inr 1000, .inr 1000, .inl o.2.2.1, .inl o.2.2.2.1, .inl o.2.2.2.2.1, .inl o.2.2.2.2.2.1, .inl f8, .inl f9, .inl o.2.2.2.2.2.2.1, .inl f11, .inl f12, .inl f13, .inl f14, .inl f15, .inl o.2.2.2.2.2.2.2.1, .inl f17, .inl o.2.2.2.2.2.2.2.2.1, .inl f19, .inl f20] [o.2.2.2.2.2.2.2.2.2.1, o.2.2.2.2.2.2.2.2.2.2.1, g2, o.2.2.2.2.2.2.2.2.2.2.2.1, g4, g5, g6, g7, g8, g9, g10, o.2.2.2.2.2.2.2.2.2.2.2.2.1, g12, o.2.2.2.2.2.2.2.2.2.2.2.2.2, g14, g15, g16] := zv_meth (K := (z_KF0, z_KC0, z_KL0, z_KT0, [], [], [], none)) (FT := z_FT) (MT := z_MT) (n := 3) zxp136 (z_ks0 _ (fun _ h => List.mem_cons_of_mem _ h) _ _ _ _ (fun j r h _ => by cases h)) (fun _ _ => zs_KX_p) zyw_X_known (fun va F G h => by obtain ⟨rfl, _⟩ := h; rfl) rfl fun good va F G hB hret hvret hP => by
  obtain ⟨rfl, rfl, rfl⟩ := hP
  have l0 : ∀ (n : Nat) (x2 : Int) (x3 : Int) (x4 : Int) (f0 : Int) (f4 : Int) (f5 : Int) (f6 : Int) (f7 : Int) (f10 : Int) (f16 : Int) (f18 : Int) (g0 : (Int → Int)) (g1 : (Int → Int)) (g3 : (Int → Int)) (g11 : (Int → Int)) (g13 : (Int → Int)) (q : ((Int × Int × Int × Int × Int × Int × Int × (Int → Int) × (Int → Int) × (Int → Int)) ⊕ (Int × Int × Int × Int × Int × Int × Int × Int × Int × (Int → Int) × (Int → Int) × (Int → Int) × (Int → Int) × (Int → Int)))), zf_X_known_l0 x2 f0 f5 f8 f9 f11 f12 f13 f14 f15 f17 f19 f20 g0 g1 g4 g5 g6 g7 g8 g9 g10 g12 g14 g15 g16 n x3 x4 f4 f6 f7 f10 f16 f18 g3 g11 g13 = some q → (Sum.elim (fun e : Int × Int × Int × Int × Int × Int × Int × (Int → Int) × (Int → Int) × (Int → Int) => good 134 [.inr 1000, .inr 1000, .inl x2, .inl e.1, .inr 1000] [] [.inl f0, .inr 4, .inr 3, .inr 4, .inl e.2.1, .inl f5, .inl e.2.2.1, .inl e.2.2.2.1, .inl f8, .inl f9, .inl e.2.2.2.2.1, .inl f11, .inl f12, .inl f13, .inl f14, .inl f15, .inl e.2.2.2.2.2.1, .inl f17, .inl e.2.2.2.2.2.2.1, .inl f19, .inl f20] [g0, g1, g2, e.2.2.2.2.2.2.2.1, g4, g5, g6, g7, g8, g9, g10, e.2.2.2.2.2.2.2.2.1, g12, e.2.2.2.2.2.2.2.2.2, g14, g15, g16]) (fun w : Int × Int × Int × Int × Int × Int × Int × Int × Int × (Int → Int) × (Int → Int) × (Int → Int) × (Int → Int) × (Int → Int) => w = o) q) → good 66 [.inr 0, .inr 1000, .inl x2, .inl x3, .inl x4] [] [.inl f0, .inr 4, .inr 3, .inr 4, .inl f4, .inl f5, .inl f6, .inl f7, .inl f8, .inl f9, .inl f10, .inl f11, .inl f12, .inl f13, .inl f14, .inl f15, .inl f16, .inl f17, .inl f18, .inl f19, .inl f20] [g0, g1, g2, g3, g4, g5, g6, g7, g8, g9, g10, g11, g12, g13, g14, g15, g16] := by
    intro n
    induction n with
    | zero => intro x2 x3 x4 f0 f4 f5 f6 f7 f10 f16 f18 g0 g1 g3 g11 g13 q h; exact absurd (show none = some q from h) (fun h => by cases h)
    | succ n ih =>
      intro x2 x3 x4 f0 f4 f5 f6 f7 f10 f16 f18 g0 g1 g3 g11 g13 q h hK
      replace h : zf_X_known_l0_b x2 f0 f5 f8 f9 f11 f12 f13 f14 f15 f17 f19 f20 g0 g1 g4 g5 g6 g7 g8 g9 g10 g12 g14 g15 g16 (zf_X_known_l0 x2 f0 f5 f8 f9 f11 f12 f13 f14 f15 f17 f19 f20 g0 g1 g4 g5 g6 g7 g8 g9 g10 g12 g14 g15 g16 n) x3 x4 f4 f6 f7 f10 f16 f18 g3 g11 g13 = some q := h
      unfold zf_X_known_l0_b at h
      refine zv_ild hB zd136_66 rfl rfl ?_
      refine zv_con hB zd136_68 rfl ?_
      refine zv_cge hB zd136_71 rfl (fun hc9 => ?_) (fun hc9 => ?_)
      · rw [if_neg (Int.not_lt.mpr hc9)] at h
        have hq := Option.some.inj h
        subst hq
        refine zv_wk hB (L' := [.inr 1000, .inr 1000, .inl x2, .inl x3, .inr 1000]) (F' := [.inl f0, .inr 4, .inr 3, .inr 4, .inl f4, .inl f5, .inl f6, .inl f7, .inl f8, .inl f9, .inl f10, .inl f11, .inl f12, .inl f13, .inl f14, .inl f15, .inl f16, .inl f17, .inl f18, .inl f19, .inl f20]) ⟨fun h => (Nat.lt_irrefl 1000 h).elim, fun h => (Nat.lt_irrefl 1000 h).elim, fun _ => rfl, fun _ => rfl, fun h => (Nat.lt_irrefl 1000 h).elim, trivial⟩ ⟨fun _ => rfl, fun _ => rfl, fun _ => rfl, fun _ => rfl, fun _ => rfl, fun _ => rfl, fun _ => rfl, fun _ => rfl, fun _ => rfl, fun _ => rfl, fun _ => rfl, fun _ => rfl, fun _ => rfl, fun _ => rfl, fun _ => rfl, fun _ => rfl, fun _ => rfl, fun _ => rfl, fun _ => rfl, fun _ => rfl, fun _ => rfl, trivial⟩ ?_
        exact hK
      · rw [if_pos hc9] at h
        refine zv_ald hB zd136_74 rfl rfl rfl ?_
        refine zv_getr hB zd136_75 rfl ?_
        refine zv_ild hB zd136_78 rfl rfl ?_
        obtain ⟨r10, hr10, h⟩ := zi_bind h
        refine zv_cs hB (show zv_Fn _ _ _ zy_X_known _ _ [.inl x4] [.inl f0, .inr 4, .inr 3, .inr 4, .inl f4, .inl f5, .inl f6, .inl f7, .inl f8, .inl f9, .inl f10, .inl f11, .inl f12, .inl f13, .inl f14, .inl f15, .inl f16, .inl f17, .inl f18, .inl f19, .inl f20] [g0, g1, g2, g3, g4, g5, g6, g7, g8, g9, g10, g11, g12, g13, g14, g15, g16] (some r10) [.inl f0, .inr 4, .inr 3, .inr 4, .inl f4, .inl f5, .inl f6, .inl f7, .inl f8, .inl f9, .inl f10, .inl f11, .inl f12, .inl f13, .inl f14, .inl f15, .inl f16, .inl f17, .inl f18, .inl f19, .inl f20] [g0, g1, g2, g3, g4, g5, g6, g7, g8, g9, g10, g11, g12, g13, g14, g15, g16] from zv_emb (F := [.inl f0, .inr 4, .inr 3, .inr 4, .inl f4, .inl f5, .inl f6, .inl f7, .inl f8, .inl f9, .inl f10, .inl f11, .inl f12, .inl f13, .inl f14, .inl f15, .inl f16, .inl f17, .inl f18, .inl f19, .inl f20]) (G := [g0, g1, g2, g3, g4, g5, g6, g7, g8, g9, g10, g11, g12, g13, g14, g15, g16]) zyw_X_columnOf zyw_X_known zye_X_known (by decide +kernel : zv_ek zy_X_columnOf zy_X_known [] [] [] = true) (zt_X_columnOf hr10) trivial trivial) zd136_80 zxt31 rfl (by decide) (by decide) rfl ?_
        refine zv_ild hB zd136_83 rfl rfl ?_
        obtain ⟨r11, hr11, h⟩ := zi_bind h
        refine zv_cs hB (show zv_Fn _ _ _ zy_X_known _ _ [.inl x4] [.inl f0, .inr 4, .inr 3, .inr 4, .inl f4, .inl f5, .inl f6, .inl f7, .inl f8, .inl f9, .inl f10, .inl f11, .inl f12, .inl f13, .inl f14, .inl f15, .inl f16, .inl f17, .inl f18, .inl f19, .inl f20] [g0, g1, g2, g3, g4, g5, g6, g7, g8, g9, g10, g11, g12, g13, g14, g15, g16] (some r11) [.inl f0, .inr 4, .inr 3, .inr 4, .inl f4, .inl f5, .inl f6, .inl f7, .inl f8, .inl f9, .inl f10, .inl f11, .inl f12, .inl f13, .inl f14, .inl f15, .inl f16, .inl f17, .inl f18, .inl f19, .inl f20] [g0, g1, g2, g3, g4, g5, g6, g7, g8, g9, g10, g11, g12, g13, g14, g15, g16] from zv_emb (F := [.inl f0, .inr 4, .inr 3, .inr 4, .inl f4, .inl f5, .inl f6, .inl f7, .inl f8, .inl f9, .inl f10, .inl f11, .inl f12, .inl f13, .inl f14, .inl f15, .inl f16, .inl f17, .inl f18, .inl f19, .inl f20]) (G := [g0, g1, g2, g3, g4, g5, g6, g7, g8, g9, g10, g11, g12, g13, g14, g15, g16]) zyw_X_rowOf zyw_X_known zye_X_known (by decide +kernel : zv_ek zy_X_rowOf zy_X_known [] [] [] = true) (zt_X_rowOf hr11) trivial trivial) zd136_85 zxt30 rfl (by decide) (by decide) rfl ?_
        obtain ⟨r12, hr12, h⟩ := zi_bind h
        refine zv_cv hB (show zv_Fn _ _ _ zy_X_known _ _ [.inr 2, .inl r10, .inl r11] [.inl f0, .inr 4, .inr 3, .inr 4, .inl f4, .inl f5, .inl f6, .inl f7, .inl f8, .inl f9, .inl f10, .inl f11, .inl f12, .inl f13, .inl f14, .inl f15, .inl f16, .inl f17, .inl f18, .inl f19, .inl f20] [g0, g1, g2, g3, g4, g5, g6, g7, g8, g9, g10, g11, g12, g13, g14, g15, g16] none [.inl f0, .inr 4, .inr 3, .inr 4, .inl r12.2.2.2.1, .inl f5, .inl r12.1, .inl r12.2.1, .inl f8, .inl f9, .inl r12.2.2.1, .inl f11, .inl f12, .inl f13, .inl f14, .inl f15, .inl r12.2.2.2.2.1, .inl f17, .inl r12.2.2.2.2.2.1, .inl f19, .inl f20] [g0, g1, g2, r12.2.2.2.2.2.2.1, g4, g5, g6, g7, g8, g9, g10, r12.2.2.2.2.2.2.2, g12, g13, g14, g15, g16] from zv_emb (F := [.inl f0, .inr 4, .inr 3, .inr 4, .inl f4, .inl f5, .inl f6, .inl f7, .inl f8, .inl f9, .inl f10, .inl f11, .inl f12, .inl f13, .inl f14, .inl f15, .inl f16, .inl f17, .inl f18, .inl f19, .inl f20]) (G := [g0, g1, g2, g3, g4, g5, g6, g7, g8, g9, g10, g11, g12, g13, g14, g15, g16]) zyw_View_look zyw_X_known zye_X_known (by decide +kernel : zv_ek zy_View_look zy_X_known [2, 4, 9, 3, 10, 11, 12, 13, 14, 15, 16, 17, 18] [3, 2, 6, 7, 8, 9, 10, 11, 12, 13, 14, 15, 4, 16, 17, 18, 19] [3, 4, 5, 6, 7, 8, 9, 10, 11, 12] = true) (zt_View_look hr12) ⟨⟨_, rfl, fun _ => rfl⟩, ⟨_, rfl, fun _ => rfl⟩, ⟨_, rfl, fun _ => rfl⟩, ⟨_, rfl, fun _ => rfl⟩, ⟨_, rfl, fun _ => rfl⟩, ⟨_, rfl, fun _ => rfl⟩, ⟨_, rfl, fun _ => rfl⟩, ⟨_, rfl, fun _ => rfl⟩, ⟨_, rfl, fun _ => rfl⟩, ⟨_, rfl, fun _ => rfl⟩, ⟨_, rfl, fun _ => rfl⟩, ⟨_, rfl, fun _ => rfl⟩, ⟨_, rfl, fun _ => rfl⟩, ⟨_, rfl, fun _ => rfl⟩, ⟨_, rfl, fun _ => rfl⟩, ⟨_, rfl, fun _ => rfl⟩, ⟨_, rfl, fun _ => rfl⟩, trivial⟩ ⟨rfl, rfl, rfl, rfl, rfl, rfl, rfl, rfl, rfl, rfl, trivial⟩) zd136_88 zxt85 rfl (by decide) (by decide) rfl ?_
        refine zv_ald hB zd136_91 rfl rfl rfl ?_
        refine zv_getr hB zd136_92 rfl ?_
        refine zv_ald hB zd136_95 rfl rfl rfl ?_
        refine zv_getr hB zd136_96 rfl ?_
        refine zv_ild hB zd136_99 rfl rfl ?_
        refine zv_con hB zd136_100 rfl ?_
        refine zv_clt hB zd136_101 rfl (fun hc13 => ?_) (fun hc13 => ?_)
        · rw [if_pos hc13] at h
          refine zv_con hB zd136_108 rfl ?_
          obtain ⟨r14, hr14, h⟩ := zi_bind h
          refine zv_cv hB (show zv_Fn _ _ _ zy_X_known _ _ [.inr 6, .inr 2, .inl 0] [.inl f0, .inr 4, .inr 3, .inr 4, .inl r12.2.2.2.1, .inl f5, .inl r12.1, .inl r12.2.1, .inl f8, .inl f9, .inl r12.2.2.1, .inl f11, .inl f12, .inl f13, .inl f14, .inl f15, .inl r12.2.2.2.2.1, .inl f17, .inl r12.2.2.2.2.2.1, .inl f19, .inl f20] [g0, g1, g2, r12.2.2.2.2.2.2.1, g4, g5, g6, g7, g8, g9, g10, r12.2.2.2.2.2.2.2, g12, g13, g14, g15, g16] (some r14.1) [.inl f0, .inr 4, .inr 3, .inr 4, .inl r12.2.2.2.1, .inl f5, .inl r12.1, .inl r12.2.1, .inl f8, .inl f9, .inl r12.2.2.1, .inl f11, .inl f12, .inl f13, .inl f14, .inl f15, .inl r12.2.2.2.2.1, .inl f17, .inl r12.2.2.2.2.2.1, .inl f19, .inl f20] [g0, g1, g2, r12.2.2.2.2.2.2.1, g4, g5, g6, g7, g8, g9, g10, r12.2.2.2.2.2.2.2, g12, r14.2, g14, g15, g16] from zv_emb (F := [.inl f0, .inr 4, .inr 3, .inr 4, .inl r12.2.2.2.1, .inl f5, .inl r12.1, .inl r12.2.1, .inl f8, .inl f9, .inl r12.2.2.1, .inl f11, .inl f12, .inl f13, .inl f14, .inl f15, .inl r12.2.2.2.2.1, .inl f17, .inl r12.2.2.2.2.2.1, .inl f19, .inl f20]) (G := [g0, g1, g2, r12.2.2.2.2.2.2.1, g4, g5, g6, g7, g8, g9, g10, r12.2.2.2.2.2.2.2, g12, g13, g14, g15, g16]) zyw_Patches_isKnown zyw_X_known zye_X_known (by decide +kernel : zv_ek zy_Patches_isKnown zy_X_known [6, 2, 19, 20, 21, 22, 23, 7] [10, 6, 7, 20, 5] [13, 14, 15, 16, 1] = true) (zt_Patches_isKnown hr14) ⟨⟨_, rfl, fun _ => rfl⟩, ⟨_, rfl, fun _ => rfl⟩, ⟨_, rfl, fun _ => rfl⟩, ⟨_, rfl, fun _ => rfl⟩, ⟨_, rfl, fun _ => rfl⟩, trivial⟩ ⟨rfl, rfl, rfl, rfl, rfl, trivial⟩) zd136_109 zxt139 rfl (by decide) (by decide) rfl ?_
          refine zv_zeq hB zd136_112 rfl (fun hc15 => ?_) (fun hc15 => ?_)
          · rw [if_pos hc15] at h
            refine zv_iincw hB zd136_128 rfl rfl ?_
            refine zv_goto hB zd136_131 rfl ?_
            exact ih _ _ _ _ _ _ _ _ _ _ _ _ _ _ _ _ q h hK
          · rw [if_neg hc15] at h
            refine zv_ild hB zd136_115 rfl rfl ?_
            refine zv_con hB zd136_116 rfl ?_
            refine zv_remw hB zd136_117 (by decide) ?_
            refine zv_con hB zd136_118 rfl ?_
            refine zv_cne hB zd136_119 rfl (fun hc16 => ?_) (fun hc16 => ?_)
            · rw [if_neg hc16] at h
              refine zv_iincw hB zd136_125 rfl rfl ?_
              refine zv_iincw hB zd136_128 rfl rfl ?_
              refine zv_goto hB zd136_131 rfl ?_
              exact ih _ _ _ _ _ _ _ _ _ _ _ _ _ _ _ _ q h hK
            · rw [if_pos hc16] at h
              refine zv_ild hB zd136_122 rfl rfl ?_
              have hw : (x4, f0, r12.2.2.2.1, f5, r12.1, r12.2.1, r12.2.2.1, r12.2.2.2.2.1, r12.2.2.2.2.2.1, g0, g1, r12.2.2.2.2.2.2.1, r12.2.2.2.2.2.2.2, r14.2) = o := zi_rk (Option.some.inj h) hK
              refine zv_wk hB (L' := [.inr 0, .inr 1000, .inl x2, .inl x3, .inl x4]) (F' := [.inl f0, .inr 4, .inr 1000, .inr 1000, .inl r12.2.2.2.1, .inl f5, .inl r12.1, .inl r12.2.1, .inl f8, .inl f9, .inl r12.2.2.1, .inl f11, .inl f12, .inl f13, .inl f14, .inl f15, .inl r12.2.2.2.2.1, .inl f17, .inl r12.2.2.2.2.2.1, .inl f19, .inl f20]) ⟨fun _ => rfl, fun _ => rfl, fun _ => rfl, fun _ => rfl, fun _ => rfl, trivial⟩ ⟨fun _ => rfl, fun _ => rfl, fun h => (Nat.lt_irrefl 1000 h).elim, fun h => (Nat.lt_irrefl 1000 h).elim, fun _ => rfl, fun _ => rfl, fun _ => rfl, fun _ => rfl, fun _ => rfl, fun _ => rfl, fun _ => rfl, fun _ => rfl, fun _ => rfl, fun _ => rfl, fun _ => rfl, fun _ => rfl, fun _ => rfl, fun _ => rfl, fun _ => rfl, fun _ => rfl, fun _ => rfl, trivial⟩ ?_
              subst hw
              exact hret _ _ _ _ _ zd136_124 (by trivial) ⟨rfl, rfl, rfl⟩
        · rw [if_neg (Int.not_lt.mpr hc13)] at h
          refine zv_con hB zd136_104 rfl ?_
          refine zv_goto hB zd136_105 rfl ?_
          obtain ⟨r17, hr17, h⟩ := zi_bind h
          refine zv_cv hB (show zv_Fn _ _ _ zy_X_known _ _ [.inr 6, .inr 2, .inl 1] [.inl f0, .inr 4, .inr 3, .inr 4, .inl r12.2.2.2.1, .inl f5, .inl r12.1, .inl r12.2.1, .inl f8, .inl f9, .inl r12.2.2.1, .inl f11, .inl f12, .inl f13, .inl f14, .inl f15, .inl r12.2.2.2.2.1, .inl f17, .inl r12.2.2.2.2.2.1, .inl f19, .inl f20] [g0, g1, g2, r12.2.2.2.2.2.2.1, g4, g5, g6, g7, g8, g9, g10, r12.2.2.2.2.2.2.2, g12, g13, g14, g15, g16] (some r17.1) [.inl f0, .inr 4, .inr 3, .inr 4, .inl r12.2.2.2.1, .inl f5, .inl r12.1, .inl r12.2.1, .inl f8, .inl f9, .inl r12.2.2.1, .inl f11, .inl f12, .inl f13, .inl f14, .inl f15, .inl r12.2.2.2.2.1, .inl f17, .inl r12.2.2.2.2.2.1, .inl f19, .inl f20] [g0, g1, g2, r12.2.2.2.2.2.2.1, g4, g5, g6, g7, g8, g9, g10, r12.2.2.2.2.2.2.2, g12, r17.2, g14, g15, g16] from zv_emb (F := [.inl f0, .inr 4, .inr 3, .inr 4, .inl r12.2.2.2.1, .inl f5, .inl r12.1, .inl r12.2.1, .inl f8, .inl f9, .inl r12.2.2.1, .inl f11, .inl f12, .inl f13, .inl f14, .inl f15, .inl r12.2.2.2.2.1, .inl f17, .inl r12.2.2.2.2.2.1, .inl f19, .inl f20]) (G := [g0, g1, g2, r12.2.2.2.2.2.2.1, g4, g5, g6, g7, g8, g9, g10, r12.2.2.2.2.2.2.2, g12, g13, g14, g15, g16]) zyw_Patches_isKnown zyw_X_known zye_X_known (by decide +kernel : zv_ek zy_Patches_isKnown zy_X_known [6, 2, 19, 20, 21, 22, 23, 7] [10, 6, 7, 20, 5] [13, 14, 15, 16, 1] = true) (zt_Patches_isKnown hr17) ⟨⟨_, rfl, fun _ => rfl⟩, ⟨_, rfl, fun _ => rfl⟩, ⟨_, rfl, fun _ => rfl⟩, ⟨_, rfl, fun _ => rfl⟩, ⟨_, rfl, fun _ => rfl⟩, trivial⟩ ⟨rfl, rfl, rfl, rfl, rfl, trivial⟩) zd136_109 zxt139 rfl (by decide) (by decide) rfl ?_
          refine zv_zeq hB zd136_112 rfl (fun hc18 => ?_) (fun hc18 => ?_)
          · rw [if_pos hc18] at h
            refine zv_iincw hB zd136_128 rfl rfl ?_
            refine zv_goto hB zd136_131 rfl ?_
            exact ih _ _ _ _ _ _ _ _ _ _ _ _ _ _ _ _ q h hK
          · rw [if_neg hc18] at h
            refine zv_ild hB zd136_115 rfl rfl ?_
            refine zv_con hB zd136_116 rfl ?_
            refine zv_remw hB zd136_117 (by decide) ?_
            refine zv_con hB zd136_118 rfl ?_
            refine zv_cne hB zd136_119 rfl (fun hc19 => ?_) (fun hc19 => ?_)
            · rw [if_neg hc19] at h
              refine zv_iincw hB zd136_125 rfl rfl ?_
              refine zv_iincw hB zd136_128 rfl rfl ?_
              refine zv_goto hB zd136_131 rfl ?_
              exact ih _ _ _ _ _ _ _ _ _ _ _ _ _ _ _ _ q h hK
            · rw [if_pos hc19] at h
              refine zv_ild hB zd136_122 rfl rfl ?_
              have hw : (x4, f0, r12.2.2.2.1, f5, r12.1, r12.2.1, r12.2.2.1, r12.2.2.2.2.1, r12.2.2.2.2.2.1, g0, g1, r12.2.2.2.2.2.2.1, r12.2.2.2.2.2.2.2, r17.2) = o := zi_rk (Option.some.inj h) hK
              refine zv_wk hB (L' := [.inr 0, .inr 1000, .inl x2, .inl x3, .inl x4]) (F' := [.inl f0, .inr 4, .inr 1000, .inr 1000, .inl r12.2.2.2.1, .inl f5, .inl r12.1, .inl r12.2.1, .inl f8, .inl f9, .inl r12.2.2.1, .inl f11, .inl f12, .inl f13, .inl f14, .inl f15, .inl r12.2.2.2.2.1, .inl f17, .inl r12.2.2.2.2.2.1, .inl f19, .inl f20]) ⟨fun _ => rfl, fun _ => rfl, fun _ => rfl, fun _ => rfl, fun _ => rfl, trivial⟩ ⟨fun _ => rfl, fun _ => rfl, fun h => (Nat.lt_irrefl 1000 h).elim, fun h => (Nat.lt_irrefl 1000 h).elim, fun _ => rfl, fun _ => rfl, fun _ => rfl, fun _ => rfl, fun _ => rfl, fun _ => rfl, fun _ => rfl, fun _ => rfl, fun _ => rfl, fun _ => rfl, fun _ => rfl, fun _ => rfl, fun _ => rfl, fun _ => rfl, fun _ => rfl, fun _ => rfl, fun _ => rfl, trivial⟩ ?_
              subst hw
              exact hret _ _ _ _ _ zd136_124 (by trivial) ⟨rfl, rfl, rfl⟩
  unfold zf_X_known at h
  refine zv_ild hB zd136_0 rfl rfl ?_
  refine zv_con hB zd136_1 rfl ?_
  refine zv_con hB zd136_2 rfl ?_
  obtain ⟨r1, hr1, h⟩ := zi_bind h
  refine zv_cs hB (show zv_Fn _ _ _ zy_X_known _ _ [.inl x1, .inl 1, .inl 12] [.inl f0, .inr 4, .inr 1000, .inr 1000, .inl f4, .inl f5, .inl f6, .inl f7, .inl f8, .inl f9, .inl f10, .inl f11, .inl f12, .inl f13, .inl f14, .inl f15, .inl f16, .inl f17, .inl f18, .inl f19, .inl f20] [g0, g1, g2, g3, g4, g5, g6, g7, g8, g9, g10, g11, g12, g13, g14, g15, g16] (some r1) [.inl f0, .inr 4, .inr 1000, .inr 1000, .inl f4, .inl f5, .inl f6, .inl f7, .inl f8, .inl f9, .inl f10, .inl f11, .inl f12, .inl f13, .inl f14, .inl f15, .inl f16, .inl f17, .inl f18, .inl f19, .inl f20] [g0, g1, g2, g3, g4, g5, g6, g7, g8, g9, g10, g11, g12, g13, g14, g15, g16] from zv_emb (F := [.inl f0, .inr 4, .inr 1000, .inr 1000, .inl f4, .inl f5, .inl f6, .inl f7, .inl f8, .inl f9, .inl f10, .inl f11, .inl f12, .inl f13, .inl f14, .inl f15, .inl f16, .inl f17, .inl f18, .inl f19, .inl f20]) (G := [g0, g1, g2, g3, g4, g5, g6, g7, g8, g9, g10, g11, g12, g13, g14, g15, g16]) zyw_X_isWithin zyw_X_known zye_X_known (by decide +kernel : zv_ek zy_X_isWithin zy_X_known [] [] [] = true) (zt_X_isWithin hr1) trivial trivial) zd136_4 zxt15 rfl (by decide) (by decide) rfl ?_
  refine zv_zeq hB zd136_7 rfl (fun hc2 => ?_) (fun hc2 => ?_)
  · rw [if_pos hc2] at h
    refine zv_con hB zd136_32 rfl ?_
    have hw := Option.some.inj h
    subst hw
    exact hret _ _ _ _ _ zd136_33 (by trivial) ⟨rfl, rfl, rfl⟩
  · rw [if_neg hc2] at h
    refine zv_ild hB zd136_10 rfl rfl ?_
    refine zv_con hB zd136_11 rfl ?_
    refine zv_con hB zd136_12 rfl ?_
    obtain ⟨r3, hr3, h⟩ := zi_bind h
    refine zv_cs hB (show zv_Fn _ _ _ zy_X_known _ _ [.inl x2, .inl 0, .inl 3] [.inl f0, .inr 4, .inr 1000, .inr 1000, .inl f4, .inl f5, .inl f6, .inl f7, .inl f8, .inl f9, .inl f10, .inl f11, .inl f12, .inl f13, .inl f14, .inl f15, .inl f16, .inl f17, .inl f18, .inl f19, .inl f20] [g0, g1, g2, g3, g4, g5, g6, g7, g8, g9, g10, g11, g12, g13, g14, g15, g16] (some r3) [.inl f0, .inr 4, .inr 1000, .inr 1000, .inl f4, .inl f5, .inl f6, .inl f7, .inl f8, .inl f9, .inl f10, .inl f11, .inl f12, .inl f13, .inl f14, .inl f15, .inl f16, .inl f17, .inl f18, .inl f19, .inl f20] [g0, g1, g2, g3, g4, g5, g6, g7, g8, g9, g10, g11, g12, g13, g14, g15, g16] from zv_emb (F := [.inl f0, .inr 4, .inr 1000, .inr 1000, .inl f4, .inl f5, .inl f6, .inl f7, .inl f8, .inl f9, .inl f10, .inl f11, .inl f12, .inl f13, .inl f14, .inl f15, .inl f16, .inl f17, .inl f18, .inl f19, .inl f20]) (G := [g0, g1, g2, g3, g4, g5, g6, g7, g8, g9, g10, g11, g12, g13, g14, g15, g16]) zyw_X_isWithin zyw_X_known zye_X_known (by decide +kernel : zv_ek zy_X_isWithin zy_X_known [] [] [] = true) (zt_X_isWithin hr3) trivial trivial) zd136_13 zxt15 rfl (by decide) (by decide) rfl ?_
    refine zv_zeq hB zd136_16 rfl (fun hc4 => ?_) (fun hc4 => ?_)
    · rw [if_pos hc4] at h
      refine zv_con hB zd136_32 rfl ?_
      have hw := Option.some.inj h
      subst hw
      exact hret _ _ _ _ _ zd136_33 (by trivial) ⟨rfl, rfl, rfl⟩
    · rw [if_neg hc4] at h
      refine zv_ald hB zd136_19 rfl rfl rfl ?_
      refine zv_getr hB zd136_20 rfl ?_
      refine zv_con hB zd136_23 rfl ?_
      refine zv_ild hB zd136_24 rfl rfl ?_
      refine zv_mulw hB zd136_25 ?_
      obtain ⟨r5, hr5, h⟩ := zi_bind h
      refine zv_cv hB (show zv_Fn _ _ _ zy_X_known _ _ [.inr 1, .inl (zi_w (3 * x1))] [.inl f0, .inr 4, .inr 1000, .inr 1000, .inl f4, .inl f5, .inl f6, .inl f7, .inl f8, .inl f9, .inl f10, .inl f11, .inl f12, .inl f13, .inl f14, .inl f15, .inl f16, .inl f17, .inl f18, .inl f19, .inl f20] [g0, g1, g2, g3, g4, g5, g6, g7, g8, g9, g10, g11, g12, g13, g14, g15, g16] (some r5.1) [.inl r5.2, .inr 4, .inr 1000, .inr 1000, .inl f4, .inl f5, .inl f6, .inl f7, .inl f8, .inl f9, .inl f10, .inl f11, .inl f12, .inl f13, .inl f14, .inl f15, .inl f16, .inl f17, .inl f18, .inl f19, .inl f20] [g0, g1, g2, g3, g4, g5, g6, g7, g8, g9, g10, g11, g12, g13, g14, g15, g16] from zv_emb (F := [.inl f0, .inr 4, .inr 1000, .inr 1000, .inl f4, .inl f5, .inl f6, .inl f7, .inl f8, .inl f9, .inl f10, .inl f11, .inl f12, .inl f13, .inl f14, .inl f15, .inl f16, .inl f17, .inl f18, .inl f19, .inl f20]) (G := [g0, g1, g2, g3, g4, g5, g6, g7, g8, g9, g10, g11, g12, g13, g14, g15, g16]) zyw_Tape_take zyw_X_known zye_X_known (by decide +kernel : zv_ek zy_Tape_take zy_X_known [1] [0] [] = true) (zt_Tape_take hr5) ⟨⟨_, rfl, fun _ => rfl⟩, trivial⟩ trivial) zd136_26 zxt35 rfl (by decide) (by decide) rfl ?_
      refine zv_zne hB zd136_29 rfl (fun hc6 => ?_) (fun hc6 => ?_)
      · rw [if_neg hc6] at h
        refine zv_ald hB zd136_34 rfl rfl rfl ?_
        refine zv_getr hB zd136_35 rfl ?_
        refine zv_ald hB zd136_38 rfl rfl rfl ?_
        refine zv_getr hB zd136_39 rfl ?_
        refine zv_ald hB zd136_42 rfl rfl rfl ?_
        refine zv_getq hB zd136_43 rfl rfl rfl ?_
        obtain ⟨r7, hr7, h⟩ := zi_bind h
        refine zv_cv hB (show zv_Fn _ _ _ zy_X_known _ _ [.inr 2, .inr 3, .inr 4] [.inl r5.2, .inr 4, .inr 1000, .inr 1000, .inl f4, .inl f5, .inl f6, .inl f7, .inl f8, .inl f9, .inl f10, .inl f11, .inl f12, .inl f13, .inl f14, .inl f15, .inl f16, .inl f17, .inl f18, .inl f19, .inl f20] [g0, g1, g2, g3, g4, g5, g6, g7, g8, g9, g10, g11, g12, g13, g14, g15, g16] none [.inl r5.2, .inr 4, .inr 3, .inr 4, .inl r7.1, .inl f5, .inl f6, .inl f7, .inl f8, .inl f9, .inl f10, .inl f11, .inl f12, .inl f13, .inl f14, .inl f15, .inl f16, .inl f17, .inl f18, .inl f19, .inl f20] [r7.2, g1, g2, g3, g4, g5, g6, g7, g8, g9, g10, g11, g12, g13, g14, g15, g16] from zv_emb (F := [.inl r5.2, .inr 4, .inr 1000, .inr 1000, .inl f4, .inl f5, .inl f6, .inl f7, .inl f8, .inl f9, .inl f10, .inl f11, .inl f12, .inl f13, .inl f14, .inl f15, .inl f16, .inl f17, .inl f18, .inl f19, .inl f20]) (G := [g0, g1, g2, g3, g4, g5, g6, g7, g8, g9, g10, g11, g12, g13, g14, g15, g16]) zyw_View_open zyw_X_known zye_X_known (by decide +kernel : zv_ek zy_View_open zy_X_known [2, 3, 4, 5] [2, 3, 4] [0] = true) (zt_View_open hr7) ⟨⟨_, rfl, fun h => (Nat.lt_irrefl 1000 h).elim⟩, ⟨_, rfl, fun h => (Nat.lt_irrefl 1000 h).elim⟩, ⟨_, rfl, fun _ => rfl⟩, trivial⟩ ⟨rfl, trivial⟩) zd136_46 zxt84 rfl (by decide) (by decide) rfl ?_
        refine zv_ald hB zd136_49 rfl rfl rfl ?_
        refine zv_getr hB zd136_50 rfl ?_
        refine zv_ald hB zd136_53 rfl rfl rfl ?_
        refine zv_getr hB zd136_54 rfl ?_
        refine zv_ild hB zd136_57 rfl rfl ?_
        obtain ⟨r8, hr8, h⟩ := zi_bind h
        refine zv_cv hB (show zv_Fn _ _ _ zy_X_known _ _ [.inr 6, .inr 1, .inl x1] [.inl r5.2, .inr 4, .inr 3, .inr 4, .inl r7.1, .inl f5, .inl f6, .inl f7, .inl f8, .inl f9, .inl f10, .inl f11, .inl f12, .inl f13, .inl f14, .inl f15, .inl f16, .inl f17, .inl f18, .inl f19, .inl f20] [r7.2, g1, g2, g3, g4, g5, g6, g7, g8, g9, g10, g11, g12, g13, g14, g15, g16] none [.inl r5.2, .inr 4, .inr 3, .inr 4, .inl r7.1, .inl r8.1, .inl f6, .inl f7, .inl f8, .inl f9, .inl f10, .inl f11, .inl f12, .inl f13, .inl f14, .inl f15, .inl f16, .inl f17, .inl f18, .inl f19, .inl f20] [r7.2, r8.2, g2, g3, g4, g5, g6, g7, g8, g9, g10, g11, g12, g13, g14, g15, g16] from zv_emb (F := [.inl r5.2, .inr 4, .inr 3, .inr 4, .inl r7.1, .inl f5, .inl f6, .inl f7, .inl f8, .inl f9, .inl f10, .inl f11, .inl f12, .inl f13, .inl f14, .inl f15, .inl f16, .inl f17, .inl f18, .inl f19, .inl f20]) (G := [r7.2, g1, g2, g3, g4, g5, g6, g7, g8, g9, g10, g11, g12, g13, g14, g15, g16]) zyw_Patches_takeParts zyw_X_known zye_X_known (by decide +kernel : zv_ek zy_Patches_takeParts zy_X_known [6, 1, 7, 8] [5] [1, 2] = true) (zt_Patches_takeParts hr8) ⟨⟨_, rfl, fun _ => rfl⟩, trivial⟩ ⟨rfl, rfl, trivial⟩) zd136_58 zxt137 rfl (by decide) (by decide) rfl ?_
        refine zv_con hB zd136_61 rfl ?_
        refine zv_ist hB zd136_62 rfl rfl rfl ?_
        refine zv_con hB zd136_63 rfl ?_
        refine zv_ist hB zd136_64 rfl rfl rfl ?_
        obtain ⟨q20, hq20, h⟩ := zi_bind h
        refine zv_wk hB (L' := [.inr 0, .inr 1000, .inl x2, .inl 0, .inl 0]) (F' := [.inl r5.2, .inr 4, .inr 3, .inr 4, .inl r7.1, .inl r8.1, .inl f6, .inl f7, .inl f8, .inl f9, .inl f10, .inl f11, .inl f12, .inl f13, .inl f14, .inl f15, .inl f16, .inl f17, .inl f18, .inl f19, .inl f20]) ⟨fun _ => rfl, fun h => (Nat.lt_irrefl 1000 h).elim, fun _ => rfl, fun _ => rfl, fun _ => rfl, trivial⟩ ⟨fun _ => rfl, fun _ => rfl, fun _ => rfl, fun _ => rfl, fun _ => rfl, fun _ => rfl, fun _ => rfl, fun _ => rfl, fun _ => rfl, fun _ => rfl, fun _ => rfl, fun _ => rfl, fun _ => rfl, fun _ => rfl, fun _ => rfl, fun _ => rfl, fun _ => rfl, fun _ => rfl, fun _ => rfl, fun _ => rfl, fun _ => rfl, trivial⟩ ?_
        refine l0 _ _ _ _ _ _ _ _ _ _ _ _ _ _ _ _ _ q20 hq20 ?_
        rcases q20 with e21 | w23
        · replace h := zi_sl h
          show good 134 [.inr 1000, .inr 1000, .inl x2, .inl e21.1, .inr 1000] [] [.inl r5.2, .inr 4, .inr 3, .inr 4, .inl e21.2.1, .inl r8.1, .inl e21.2.2.1, .inl e21.2.2.2.1, .inl f8, .inl f9, .inl e21.2.2.2.2.1, .inl f11, .inl f12, .inl f13, .inl f14, .inl f15, .inl e21.2.2.2.2.2.1, .inl f17, .inl e21.2.2.2.2.2.2.1, .inl f19, .inl f20] [r7.2, r8.2, g2, e21.2.2.2.2.2.2.2.1, g4, g5, g6, g7, g8, g9, g10, e21.2.2.2.2.2.2.2.2.1, g12, e21.2.2.2.2.2.2.2.2.2, g14, g15, g16]
          refine zv_ild hB zd136_134 rfl rfl ?_
          refine zv_con hB zd136_135 rfl ?_
          refine zv_remw hB zd136_136 (by decide) ?_
          refine zv_con hB zd136_137 rfl ?_
          refine zv_cne hB zd136_138 rfl (fun hc22 => ?_) (fun hc22 => ?_)
          · rw [if_neg hc22] at h
            refine zv_ild hB zd136_146 rfl rfl ?_
            have hw := Option.some.inj h
            refine zv_wk hB (L' := [.inr 1000, .inr 1000, .inl x2, .inl e21.1, .inr 1000]) (F' := [.inl r5.2, .inr 4, .inr 1000, .inr 1000, .inl e21.2.1, .inl r8.1, .inl e21.2.2.1, .inl e21.2.2.2.1, .inl f8, .inl f9, .inl e21.2.2.2.2.1, .inl f11, .inl f12, .inl f13, .inl f14, .inl f15, .inl e21.2.2.2.2.2.1, .inl f17, .inl e21.2.2.2.2.2.2.1, .inl f19, .inl f20]) ⟨fun _ => rfl, fun _ => rfl, fun _ => rfl, fun _ => rfl, fun _ => rfl, trivial⟩ ⟨fun _ => rfl, fun _ => rfl, fun h => (Nat.lt_irrefl 1000 h).elim, fun h => (Nat.lt_irrefl 1000 h).elim, fun _ => rfl, fun _ => rfl, fun _ => rfl, fun _ => rfl, fun _ => rfl, fun _ => rfl, fun _ => rfl, fun _ => rfl, fun _ => rfl, fun _ => rfl, fun _ => rfl, fun _ => rfl, fun _ => rfl, fun _ => rfl, fun _ => rfl, fun _ => rfl, fun _ => rfl, trivial⟩ ?_
            subst hw
            exact hret _ _ _ _ _ zd136_147 (by trivial) ⟨rfl, rfl, rfl⟩
          · rw [if_pos hc22] at h
            refine zv_con hB zd136_141 rfl ?_
            refine zv_goto hB zd136_143 rfl ?_
            have hw := Option.some.inj h
            refine zv_wk hB (L' := [.inr 1000, .inr 1000, .inl x2, .inl e21.1, .inr 1000]) (F' := [.inl r5.2, .inr 4, .inr 1000, .inr 1000, .inl e21.2.1, .inl r8.1, .inl e21.2.2.1, .inl e21.2.2.2.1, .inl f8, .inl f9, .inl e21.2.2.2.2.1, .inl f11, .inl f12, .inl f13, .inl f14, .inl f15, .inl e21.2.2.2.2.2.1, .inl f17, .inl e21.2.2.2.2.2.2.1, .inl f19, .inl f20]) ⟨fun _ => rfl, fun _ => rfl, fun _ => rfl, fun _ => rfl, fun _ => rfl, trivial⟩ ⟨fun _ => rfl, fun _ => rfl, fun h => (Nat.lt_irrefl 1000 h).elim, fun h => (Nat.lt_irrefl 1000 h).elim, fun _ => rfl, fun _ => rfl, fun _ => rfl, fun _ => rfl, fun _ => rfl, fun _ => rfl, fun _ => rfl, fun _ => rfl, fun _ => rfl, fun _ => rfl, fun _ => rfl, fun _ => rfl, fun _ => rfl, fun _ => rfl, fun _ => rfl, fun _ => rfl, fun _ => rfl, trivial⟩ ?_
            subst hw
            exact hret _ _ _ _ _ zd136_147 (by trivial) ⟨rfl, rfl, rfl⟩
        · exact Option.some.inj h
      · rw [if_pos hc6] at h
        refine zv_con hB zd136_32 rfl ?_
        have hw := Option.some.inj h
        subst hw
        exact hret _ _ _ _ _ zd136_33 (by trivial) ⟨rfl, rfl, rfl⟩
/-! Chooser_pairsApart (II)I -/
-- names: 0 Chooser('arg', 0), 1 (0, 8)(0, 11, 0)
-- fields: ; arrays: g0 = 1; out: [('ret', None)]
abbrev zy_Chooser_pairsApart : zNL := (2, [(0, 11)], [], [(0, 11, 0, 1)], [(1, 0, 8, 0)])
theorem zyw_Chooser_pairsApart : zv_wf zy_Chooser_pairsApart = true := by decide +kernel
theorem zye_Chooser_pairsApart : zv_ek2 zy_Chooser_pairsApart = true := by decide +kernel
def zf_Chooser_pairsApart_l1_b (x1 : Int) (x5 : Int) (g0 : (Int → Int)) (rec : Int → Int → Int → Option (Int × Int)) (x3 : Int) (x4 : Int) (x6 : Int) : Option (Int × Int) := if x6 < x5 then (cond (zi_ix x5 8) (cond (zi_ix x6 8) (if (zi_and (zi_shr (zi_xor (g0 x5) (g0 x6)) x1) 1) = 0 then (rec x3 (zi_w (x4 + 1)) (zi_w (x6 + 1))) else (rec (zi_or x3 (zi_shl 1 x4)) (zi_w (x4 + 1)) (zi_w (x6 + 1)))) none) none) else (some (x3, x4))
def zf_Chooser_pairsApart_l1 (x1 : Int) (x5 : Int) (g0 : (Int → Int)) : Nat → Int → Int → Int → Option (Int × Int)
  | 0, _, _, _ => none
  | n + 1, x3, x4, x6 => zf_Chooser_pairsApart_l1_b x1 x5 g0 (zf_Chooser_pairsApart_l1 x1 x5 g0 n) x3 x4 x6
def zf_Chooser_pairsApart_l0_b (x1 : Int) (x2 : Int) (g0 : (Int → Int)) (rec : Int → Int → Int → Option (Int)) (x3 : Int) (x4 : Int) (x5 : Int) : Option (Int) := if x5 < x2 then ((zf_Chooser_pairsApart_l1 x1 x5 g0 zi_fu x3 x4 0).bind fun q6 => (rec q6.1 q6.2 (zi_w (x5 + 1)))) else (some x3)
def zf_Chooser_pairsApart_l0 (x1 : Int) (x2 : Int) (g0 : (Int → Int)) : Nat → Int → Int → Int → Option (Int)
  | 0, _, _, _ => none
  | n + 1, x3, x4, x5 => zf_Chooser_pairsApart_l0_b x1 x2 g0 (zf_Chooser_pairsApart_l0 x1 x2 g0 n) x3 x4 x5
def zf_Chooser_pairsApart (x1 : Int) (x2 : Int) (g0 : (Int → Int)) : Option (Int) := (zf_Chooser_pairsApart_l0 x1 x2 g0 zi_fu 0 0 0).bind fun q7 => (some q7)
theorem zd142_0 : decode zxm142.2.1 0 = .ok (.iconst 0, 1) := by decide +kernel
theorem zd142_1 : decode zxm142.2.1 1 = .ok (.istore_n 3, 1) := by decide +kernel
theorem zd142_2 : decode zxm142.2.1 2 = .ok (.iconst 0, 1) := by decide +kernel
theorem zd142_3 : decode zxm142.2.1 3 = .ok (.istore 4, 2) := by decide +kernel
theorem zd142_5 : decode zxm142.2.1 5 = .ok (.iconst 0, 1) := by decide +kernel
theorem zd142_6 : decode zxm142.2.1 6 = .ok (.istore 5, 2) := by decide +kernel
theorem zd142_8 : decode zxm142.2.1 8 = .ok (.iload 5, 2) := by decide +kernel
theorem zd142_10 : decode zxm142.2.1 10 = .ok (.iload_n 2, 1) := by decide +kernel
theorem zd142_11 : decode zxm142.2.1 11 = .ok (.if_icmp .ge 57, 3) := by decide +kernel
theorem zd142_14 : decode zxm142.2.1 14 = .ok (.iconst 0, 1) := by decide +kernel
theorem zd142_15 : decode zxm142.2.1 15 = .ok (.istore 6, 2) := by decide +kernel
theorem zd142_17 : decode zxm142.2.1 17 = .ok (.iload 6, 2) := by decide +kernel
theorem zd142_19 : decode zxm142.2.1 19 = .ok (.iload 5, 2) := by decide +kernel
theorem zd142_21 : decode zxm142.2.1 21 = .ok (.if_icmp .ge 41, 3) := by decide +kernel
theorem zd142_24 : decode zxm142.2.1 24 = .ok (.aload_n 0, 1) := by decide +kernel
theorem zd142_25 : decode zxm142.2.1 25 = .ok (.getfield 11, 3) := by decide +kernel
theorem zd142_28 : decode zxm142.2.1 28 = .ok (.iload 5, 2) := by decide +kernel
theorem zd142_30 : decode zxm142.2.1 30 = .ok (.iaload, 1) := by decide +kernel
theorem zd142_31 : decode zxm142.2.1 31 = .ok (.aload_n 0, 1) := by decide +kernel
theorem zd142_32 : decode zxm142.2.1 32 = .ok (.getfield 11, 3) := by decide +kernel
theorem zd142_35 : decode zxm142.2.1 35 = .ok (.iload 6, 2) := by decide +kernel
theorem zd142_37 : decode zxm142.2.1 37 = .ok (.iaload, 1) := by decide +kernel
theorem zd142_38 : decode zxm142.2.1 38 = .ok (.ixor, 1) := by decide +kernel
theorem zd142_39 : decode zxm142.2.1 39 = .ok (.iload_n 1, 1) := by decide +kernel
theorem zd142_40 : decode zxm142.2.1 40 = .ok (.ishr, 1) := by decide +kernel
theorem zd142_41 : decode zxm142.2.1 41 = .ok (.iconst 1, 1) := by decide +kernel
theorem zd142_42 : decode zxm142.2.1 42 = .ok (.iand, 1) := by decide +kernel
theorem zd142_43 : decode zxm142.2.1 43 = .ok (.ifCond .eq 10, 3) := by decide +kernel
theorem zd142_46 : decode zxm142.2.1 46 = .ok (.iload_n 3, 1) := by decide +kernel
theorem zd142_47 : decode zxm142.2.1 47 = .ok (.iconst 1, 1) := by decide +kernel
theorem zd142_48 : decode zxm142.2.1 48 = .ok (.iload 4, 2) := by decide +kernel
theorem zd142_50 : decode zxm142.2.1 50 = .ok (.ishl, 1) := by decide +kernel
theorem zd142_51 : decode zxm142.2.1 51 = .ok (.ior, 1) := by decide +kernel
theorem zd142_52 : decode zxm142.2.1 52 = .ok (.istore_n 3, 1) := by decide +kernel
theorem zd142_53 : decode zxm142.2.1 53 = .ok (.iinc 4 1, 3) := by decide +kernel
theorem zd142_56 : decode zxm142.2.1 56 = .ok (.iinc 6 1, 3) := by decide +kernel
theorem zd142_59 : decode zxm142.2.1 59 = .ok (.goto (-42), 3) := by decide +kernel
theorem zd142_62 : decode zxm142.2.1 62 = .ok (.iinc 5 1, 3) := by decide +kernel
theorem zd142_65 : decode zxm142.2.1 65 = .ok (.goto (-57), 3) := by decide +kernel
theorem zd142_68 : decode zxm142.2.1 68 = .ok (.iload_n 3, 1) := by decide +kernel
theorem zd142_69 : decode zxm142.2.1 69 = .ok (.ireturn, 1) := by decide +kernel
theorem zt_Chooser_pairsApart {x1 : Int} {x2 : Int} {g0 : (Int → Int)} {o : Int} (h : zf_Chooser_pairsApart x1 x2 g0 = some o) : zv_Fn z_TB z_cl z_KX zy_Chooser_pairsApart zxm142 (0, 0) [.inr 0, .inl x1, .inl x2] [] [g0] (some o) [] [g0] := zv_meth (K := (z_KF1, z_KC1, z_KL1, z_KT1, [], [], [], none)) (FT := z_FT) (MT := z_MT) (n := 3) zxp142 (z_ks1 _ (fun _ h => List.mem_cons_of_mem _ h) _ _ _ _ (fun j r h _ => by cases h)) (fun _ _ => zs_KX_p) zyw_Chooser_pairsApart (fun va F G h => by obtain ⟨rfl, _⟩ := h; rfl) rfl fun good va F G hB hret hvret hP => by
  obtain ⟨rfl, rfl, rfl⟩ := hP
  have l1 : ∀ (n : Nat) (x1 : Int) (x2 : Int) (x3 : Int) (x4 : Int) (x5 : Int) (x6 : Int) (q : Int × Int), zf_Chooser_pairsApart_l1 x1 x5 g0 n x3 x4 x6 = some q → (good 62 [.inr 0, .inl x1, .inl x2, .inl q.1, .inl q.2, .inl x5, .inr 1000] [] [] [g0]) → good 17 [.inr 0, .inl x1, .inl x2, .inl x3, .inl x4, .inl x5, .inl x6] [] [] [g0] := by
    intro n
    induction n with
    | zero => intro x1 x2 x3 x4 x5 x6 q h; exact absurd (show none = some q from h) (fun h => by cases h)
    | succ n ih =>
      intro x1 x2 x3 x4 x5 x6 q h hK
      replace h : zf_Chooser_pairsApart_l1_b x1 x5 g0 (zf_Chooser_pairsApart_l1 x1 x5 g0 n) x3 x4 x6 = some q := h
      unfold zf_Chooser_pairsApart_l1_b at h
      refine zv_ild hB zd142_17 rfl rfl ?_
      refine zv_ild hB zd142_19 rfl rfl ?_
      refine zv_cge hB zd142_21 rfl (fun hc2 => ?_) (fun hc2 => ?_)
      · rw [if_neg (Int.not_lt.mpr hc2)] at h
        have hq := Option.some.inj h
        subst hq
        refine zv_wk hB (L' := [.inr 0, .inl x1, .inl x2, .inl x3, .inl x4, .inl x5, .inr 1000]) (F' := []) ⟨fun _ => rfl, fun _ => rfl, fun _ => rfl, fun _ => rfl, fun _ => rfl, fun _ => rfl, fun h => (Nat.lt_irrefl 1000 h).elim, trivial⟩ trivial ?_
        exact hK
      · rw [if_pos hc2] at h
        refine zv_ald hB zd142_24 rfl rfl rfl ?_
        refine zv_getr hB zd142_25 rfl ?_
        refine zv_ild hB zd142_28 rfl rfl ?_
        obtain ⟨c3, h⟩ := zi_if h
        refine zv_iald hB zd142_30 rfl rfl (zi_ix_ok c3).1 (zi_ix_ok c3).2 (fun _ _ => ?_)
        refine zv_ald hB zd142_31 rfl rfl rfl ?_
        refine zv_getr hB zd142_32 rfl ?_
        refine zv_ild hB zd142_35 rfl rfl ?_
        obtain ⟨c4, h⟩ := zi_if h
        refine zv_iald hB zd142_37 rfl rfl (zi_ix_ok c4).1 (zi_ix_ok c4).2 (fun _ _ => ?_)
        refine zv_xorw hB zd142_38 ?_
        refine zv_ild hB zd142_39 rfl rfl ?_
        refine zv_shrw hB zd142_40 ?_
        refine zv_con hB zd142_41 rfl ?_
        refine zv_andw hB zd142_42 ?_
        refine zv_zeq hB zd142_43 rfl (fun hc5 => ?_) (fun hc5 => ?_)
        · rw [if_pos hc5] at h
          refine zv_iincw hB zd142_53 rfl rfl ?_
          refine zv_iincw hB zd142_56 rfl rfl ?_
          refine zv_goto hB zd142_59 rfl ?_
          exact ih _ _ _ _ _ _ q h hK
        · rw [if_neg hc5] at h
          refine zv_ild hB zd142_46 rfl rfl ?_
          refine zv_con hB zd142_47 rfl ?_
          refine zv_ild hB zd142_48 rfl rfl ?_
          refine zv_shlw hB zd142_50 ?_
          refine zv_orw hB zd142_51 ?_
          refine zv_ist hB zd142_52 rfl rfl rfl ?_
          refine zv_iincw hB zd142_53 rfl rfl ?_
          refine zv_iincw hB zd142_56 rfl rfl ?_
          refine zv_goto hB zd142_59 rfl ?_
          exact ih _ _ _ _ _ _ q h hK
  have l0 : ∀ (n : Nat) (x1 : Int) (x2 : Int) (x3 : Int) (x4 : Int) (x5 : Int) (q : Int), zf_Chooser_pairsApart_l0 x1 x2 g0 n x3 x4 x5 = some q → (good 68 [.inr 1000, .inr 1000, .inr 1000, .inl q, .inr 1000, .inr 1000, .inr 1000] [] [] [g0]) → good 8 [.inr 0, .inl x1, .inl x2, .inl x3, .inl x4, .inl x5, .inr 1000] [] [] [g0] := by
    intro n
    induction n with
    | zero => intro x1 x2 x3 x4 x5 q h; exact absurd (show none = some q from h) (fun h => by cases h)
    | succ n ih =>
      intro x1 x2 x3 x4 x5 q h hK
      replace h : zf_Chooser_pairsApart_l0_b x1 x2 g0 (zf_Chooser_pairsApart_l0 x1 x2 g0 n) x3 x4 x5 = some q := h
      unfold zf_Chooser_pairsApart_l0_b at h
      refine zv_ild hB zd142_8 rfl rfl ?_
      refine zv_ild hB zd142_10 rfl rfl ?_
      refine zv_cge hB zd142_11 rfl (fun hc1 => ?_) (fun hc1 => ?_)
      · rw [if_neg (Int.not_lt.mpr hc1)] at h
        have hq := Option.some.inj h
        subst hq
        refine zv_wk hB (L' := [.inr 1000, .inr 1000, .inr 1000, .inl x3, .inr 1000, .inr 1000, .inr 1000]) (F' := []) ⟨fun h => (Nat.lt_irrefl 1000 h).elim, fun h => (Nat.lt_irrefl 1000 h).elim, fun h => (Nat.lt_irrefl 1000 h).elim, fun _ => rfl, fun h => (Nat.lt_irrefl 1000 h).elim, fun h => (Nat.lt_irrefl 1000 h).elim, fun h => (Nat.lt_irrefl 1000 h).elim, trivial⟩ trivial ?_
        exact hK
      · rw [if_pos hc1] at h
        refine zv_con hB zd142_14 rfl ?_
        refine zv_ist hB zd142_15 rfl rfl rfl ?_
        obtain ⟨q6, hq6, h⟩ := zi_bind h
        refine l1 _ _ _ _ _ _ _ q6 hq6 ?_
        show good 62 [.inr 0, .inl x1, .inl x2, .inl q6.1, .inl q6.2, .inl x5, .inr 1000] [] [] [g0]
        refine zv_iincw hB zd142_62 rfl rfl ?_
        refine zv_goto hB zd142_65 rfl ?_
        exact ih _ _ _ _ _ q h hK
  unfold zf_Chooser_pairsApart at h
  refine zv_con hB zd142_0 rfl ?_
  refine zv_ist hB zd142_1 rfl rfl rfl ?_
  refine zv_con hB zd142_2 rfl ?_
  refine zv_ist hB zd142_3 rfl rfl rfl ?_
  refine zv_con hB zd142_5 rfl ?_
  refine zv_ist hB zd142_6 rfl rfl rfl ?_
  obtain ⟨q7, hq7, h⟩ := zi_bind h
  refine l0 _ _ _ _ _ _ q7 hq7 ?_
  show good 68 [.inr 1000, .inr 1000, .inr 1000, .inl q7, .inr 1000, .inr 1000, .inr 1000] [] [] [g0]
  refine zv_ild hB zd142_68 rfl rfl ?_
  have hw := Option.some.inj h
  subst hw
  exact hret _ _ _ _ _ zd142_69 (by trivial) ⟨rfl, rfl, rfl⟩
