/-! Methods as functions, and that they do what these do. -/
/-! X_named (II)I -/
-- names: 0 StarTales('arg', 0), 1 Tape(0, 0, 6), 2 View(0, 0, 12), 3 Sky(0, 0, 0), 4 Law(0, 0, 7), 5 (0, 24)(2, 7, 8), 6 (0, 220)(1, 3, 0), 7 (0, 13)(4, 4, 12), 8 (0, 24)(3, 1, 1), 9 (0, 24)(3, 1, 2), 10 (0, 24)(3, 1, 3), 11 (0, 14)(4, 4, 3), 12 (0, 14)(4, 4, 5), 13 (0, 14)(4, 4, 6), 14 (0, 200)(4, 4, 0), 15 (0, 40)(4, 4, 13), 16 (0, 200)(4, 4, 1), 17 Chooser(0, 0, 17), 18 (0, 8)(17, 11, 0), 19 (0, 24)(17, 11, 1), 20 (0, 24)(17, 11, 2)
-- fields: f0 = 1.size_, f1 = 0.ruling_, f2 = 2.sky_, f3 = 2.law_, f4 = 2.starsAsked_, f5 = 2.x_, f6 = 2.y_, f7 = 3.hour_, f8 = 3.night_, f9 = 2.shown_, f10 = 3.told_, f11 = 3.sightColumns_, f12 = 3.sightRows_, f13 = 3.clouds_, f14 = 4.tellsSeen_, f15 = 2.starsHold_, f16 = 4.clauses_, f17 = 4.answer_, f18 = 4.seenByPlace_; arrays: g0 = 5, g1 = 6, g2 = 7, g3 = 8, g4 = 9, g5 = 10, g6 = 11, g7 = 12, g8 = 13, g9 = 14, g10 = 15, g11 = 16, g12 = 18, g13 = 19, g14 = 20; out: [('ret', None), ('f', 0), ('f', 4), ('f', 5), ('f', 6), ('f', 9), ('f', 15), ('f', 17), ('g', 0), ('g', 2), ('g', 10), ('g', 12), ('g', 13), ('g', 14)]
abbrev zy_X_named : zNL := (21, [(0, 0), (1, 3), (2, 7), (3, 1), (4, 4), (17, 11)], [(1, 3, 1, 0), (0, 0, 7, 1), (2, 7, 0, 2), (2, 7, 1, 3), (2, 7, 6, 4), (2, 7, 2, 5), (2, 7, 3, 6), (3, 1, 6, 7), (3, 1, 7, 8), (2, 7, 4, 9), (3, 1, 0, 10), (3, 1, 9, 11), (3, 1, 10, 12), (3, 1, 8, 13), (4, 4, 8, 14), (2, 7, 7, 15), (4, 4, 7, 16), (4, 4, 14, 17), (4, 4, 10, 18)], [(0, 0, 6, 1), (0, 0, 12, 2), (0, 0, 0, 3), (2, 7, 8, 5), (1, 3, 0, 6), (4, 4, 12, 7), (3, 1, 1, 8), (3, 1, 2, 9), (3, 1, 3, 10), (4, 4, 3, 11), (4, 4, 5, 12), (4, 4, 6, 13), (4, 4, 0, 14), (4, 4, 13, 15), (4, 4, 1, 16), (0, 0, 17, 17), (17, 11, 0, 18), (17, 11, 1, 19), (17, 11, 2, 20)], [(5, 0, 24, 0), (6, 0, 220, 1), (7, 0, 13, 2), (8, 0, 24, 3), (9, 0, 24, 4), (10, 0, 24, 5), (11, 0, 14, 6), (12, 0, 14, 7), (13, 0, 14, 8), (14, 0, 200, 9), (15, 0, 40, 10), (16, 0, 200, 11), (18, 0, 8, 12), (19, 0, 24, 13), (20, 0, 24, 14)])
theorem zyw_X_named : zv_wf zy_X_named = true := by decide +kernel
theorem zye_X_named : zv_ek2 zy_X_named = true := by decide +kernel
def zf_X_named_l0_b (x1 : Int) (f0 : Int) (f7 : Int) (f8 : Int) (f10 : Int) (f11 : Int) (f12 : Int) (f13 : Int) (f14 : Int) (f16 : Int) (f18 : Int) (g0 : (Int → Int)) (g1 : (Int → Int)) (g3 : (Int → Int)) (g4 : (Int → Int)) (g5 : (Int → Int)) (g6 : (Int → Int)) (g7 : (Int → Int)) (g8 : (Int → Int)) (g9 : (Int → Int)) (g11 : (Int → Int)) (g13 : (Int → Int)) (g14 : (Int → Int)) (rec : Int → Int → Int → Int → Int → Int → Int → (Int → Int) → (Int → Int) → (Int → Int) → Option (((Int × Int × Int × Int × Int × Int × (Int → Int) × (Int → Int) × (Int → Int)) ⊕ (Int × Int × Int × Int × Int × Int × Int × Int × (Int → Int) × (Int → Int) × (Int → Int) × (Int → Int) × (Int → Int) × (Int → Int))))) (x3 : Int) (f4 : Int) (f5 : Int) (f6 : Int) (f9 : Int) (f15 : Int) (f17 : Int) (g2 : (Int → Int)) (g10 : (Int → Int)) (g12 : (Int → Int)) : Option (((Int × Int × Int × Int × Int × Int × (Int → Int) × (Int → Int) × (Int → Int)) ⊕ (Int × Int × Int × Int × Int × Int × Int × Int × (Int → Int) × (Int → Int) × (Int → Int) × (Int → Int) × (Int → Int) × (Int → Int)))) := if x3 < x1 then ((zf_Tape_byteAt (zi_w (2 * x3)) g1).bind fun r9 => ((zf_Tape_byteAt (zi_w ((zi_w (2 * x3)) + 1)) g1).bind fun r10 => ((zf_X_isPlace r9 r10).bind fun r11 => (if r11 = 0 then (some (.inr ((-2), f0, f4, f5, f6, f9, f15, f17, g0, g2, g10, g12, g13, g14))) else ((zf_View_look r9 r10 f5 f6 f7 f8 f9 f10 f11 f12 f13 f14 f4 f15 f16 f17 f18 g2 g3 g4 g5 g6 g7 g8 g9 g10 g11).bind fun r13 => (cond (zi_ix x3 8) (rec (zi_w (x3 + 1)) r13.2.2.2.1 r13.1 r13.2.1 r13.2.2.1 r13.2.2.2.2.1 r13.2.2.2.2.2.1 r13.2.2.2.2.2.2.1 r13.2.2.2.2.2.2.2 (zv_up g12 x3 r13.2.2.1)) none)))))) else (some (.inl (f4, f5, f6, f9, f15, f17, g2, g10, g12)))
def zf_X_named_l0 (x1 : Int) (f0 : Int) (f7 : Int) (f8 : Int) (f10 : Int) (f11 : Int) (f12 : Int) (f13 : Int) (f14 : Int) (f16 : Int) (f18 : Int) (g0 : (Int → Int)) (g1 : (Int → Int)) (g3 : (Int → Int)) (g4 : (Int → Int)) (g5 : (Int → Int)) (g6 : (Int → Int)) (g7 : (Int → Int)) (g8 : (Int → Int)) (g9 : (Int → Int)) (g11 : (Int → Int)) (g13 : (Int → Int)) (g14 : (Int → Int)) : Nat → Int → Int → Int → Int → Int → Int → Int → (Int → Int) → (Int → Int) → (Int → Int) → Option (((Int × Int × Int × Int × Int × Int × (Int → Int) × (Int → Int) × (Int → Int)) ⊕ (Int × Int × Int × Int × Int × Int × Int × Int × (Int → Int) × (Int → Int) × (Int → Int) × (Int → Int) × (Int → Int) × (Int → Int))))
  | 0, _, _, _, _, _, _, _, _, _, _ => none
  | n + 1, x3, f4, f5, f6, f9, f15, f17, g2, g10, g12 => zf_X_named_l0_b x1 f0 f7 f8 f10 f11 f12 f13 f14 f16 f18 g0 g1 g3 g4 g5 g6 g7 g8 g9 g11 g13 g14 (zf_X_named_l0 x1 f0 f7 f8 f10 f11 f12 f13 f14 f16 f18 g0 g1 g3 g4 g5 g6 g7 g8 g9 g11 g13 g14 n) x3 f4 f5 f6 f9 f15 f17 g2 g10 g12
def zf_X_named (x1 : Int) (x2 : Int) (f0 : Int) (f4 : Int) (f5 : Int) (f6 : Int) (f7 : Int) (f8 : Int) (f9 : Int) (f10 : Int) (f11 : Int) (f12 : Int) (f13 : Int) (f14 : Int) (f15 : Int) (f16 : Int) (f17 : Int) (f18 : Int) (g0 : (Int → Int)) (g1 : (Int → Int)) (g2 : (Int → Int)) (g3 : (Int → Int)) (g4 : (Int → Int)) (g5 : (Int → Int)) (g6 : (Int → Int)) (g7 : (Int → Int)) (g8 : (Int → Int)) (g9 : (Int → Int)) (g10 : (Int → Int)) (g11 : (Int → Int)) (g12 : (Int → Int)) (g13 : (Int → Int)) (g14 : (Int → Int)) : Option (Int × Int × Int × Int × Int × Int × Int × Int × (Int → Int) × (Int → Int) × (Int → Int) × (Int → Int) × (Int → Int) × (Int → Int)) := (zf_X_isWithin x1 2 8).bind fun r1 => (if r1 = 0 then (some ((-1), f0, f4, f5, f6, f9, f15, f17, g0, g2, g10, g12, g13, g14)) else ((zf_X_isWithin x2 0 1).bind fun r3 => (if r3 = 0 then (some ((-1), f0, f4, f5, f6, f9, f15, f17, g0, g2, g10, g12, g13, g14)) else ((zf_Tape_take (zi_w (2 * x1)) f0).bind fun r5 => (if r5.1 = 0 then (some ((-1), r5.2, f4, f5, f6, f9, f15, f17, g0, g2, g10, g12, g13, g14)) else ((zf_View_open f4 g0).bind fun r7 => ((zf_X_named_l0 x1 r5.2 f7 f8 f10 f11 f12 f13 f14 f16 f18 r7.2 g1 g3 g4 g5 g6 g7 g8 g9 g11 g13 g14 zi_fu 0 r7.1 f5 f6 f9 f15 f17 g2 g10 g12).bind fun q15 => Sum.elim (fun e16 => ((zf_Chooser_fewestNamed x1 g13 e16.2.2.2.2.2.2.2.2 g14).bind fun r17 => (if r17.1 = (-1) then (some ((-2), r5.2, e16.1, e16.2.1, e16.2.2.1, e16.2.2.2.1, e16.2.2.2.2.1, e16.2.2.2.2.2.1, r7.2, e16.2.2.2.2.2.2.1, e16.2.2.2.2.2.2.2.1, e16.2.2.2.2.2.2.2.2, r17.2.1, r17.2.2)) else (if x2 = 0 then ((zf_Integer_bitCount r17.1).bind fun r20 => (some (r20, r5.2, e16.1, e16.2.1, e16.2.2.1, e16.2.2.2.1, e16.2.2.2.2.1, e16.2.2.2.2.2.1, r7.2, e16.2.2.2.2.2.2.1, e16.2.2.2.2.2.2.2.1, e16.2.2.2.2.2.2.2.2, r17.2.1, r17.2.2))) else (some (r17.1, r5.2, e16.1, e16.2.1, e16.2.2.1, e16.2.2.2.1, e16.2.2.2.2.1, e16.2.2.2.2.2.1, r7.2, e16.2.2.2.2.2.2.1, e16.2.2.2.2.2.2.2.1, e16.2.2.2.2.2.2.2.2, r17.2.1, r17.2.2)))))) (fun w21 => some w21) q15)))))))
theorem zd140_0 : decode zxm140.2.1 0 = .ok (.iload_n 1, 1) := by decide +kernel
theorem zd140_1 : decode zxm140.2.1 1 = .ok (.iconst 2, 1) := by decide +kernel
theorem zd140_2 : decode zxm140.2.1 2 = .ok (.bipush 8, 2) := by decide +kernel
theorem zd140_4 : decode zxm140.2.1 4 = .ok (.invokestatic 126, 3) := by decide +kernel
theorem zd140_7 : decode zxm140.2.1 7 = .ok (.ifCond .eq 25, 3) := by decide +kernel
theorem zd140_10 : decode zxm140.2.1 10 = .ok (.iload_n 2, 1) := by decide +kernel
theorem zd140_11 : decode zxm140.2.1 11 = .ok (.iconst 0, 1) := by decide +kernel
theorem zd140_12 : decode zxm140.2.1 12 = .ok (.iconst 1, 1) := by decide +kernel
theorem zd140_13 : decode zxm140.2.1 13 = .ok (.invokestatic 126, 3) := by decide +kernel
theorem zd140_16 : decode zxm140.2.1 16 = .ok (.ifCond .eq 16, 3) := by decide +kernel
theorem zd140_19 : decode zxm140.2.1 19 = .ok (.aload_n 0, 1) := by decide +kernel
theorem zd140_20 : decode zxm140.2.1 20 = .ok (.getfield 39, 3) := by decide +kernel
theorem zd140_23 : decode zxm140.2.1 23 = .ok (.iconst 2, 1) := by decide +kernel
theorem zd140_24 : decode zxm140.2.1 24 = .ok (.iload_n 1, 1) := by decide +kernel
theorem zd140_25 : decode zxm140.2.1 25 = .ok (.imul, 1) := by decide +kernel
theorem zd140_26 : decode zxm140.2.1 26 = .ok (.invokevirtual 197, 3) := by decide +kernel
theorem zd140_29 : decode zxm140.2.1 29 = .ok (.ifCond .ne 5, 3) := by decide +kernel
theorem zd140_32 : decode zxm140.2.1 32 = .ok (.iconst (-1), 1) := by decide +kernel
theorem zd140_33 : decode zxm140.2.1 33 = .ok (.ireturn, 1) := by decide +kernel
theorem zd140_34 : decode zxm140.2.1 34 = .ok (.aload_n 0, 1) := by decide +kernel
theorem zd140_35 : decode zxm140.2.1 35 = .ok (.getfield 81, 3) := by decide +kernel
theorem zd140_38 : decode zxm140.2.1 38 = .ok (.aload_n 0, 1) := by decide +kernel
theorem zd140_39 : decode zxm140.2.1 39 = .ok (.getfield 10, 3) := by decide +kernel
theorem zd140_42 : decode zxm140.2.1 42 = .ok (.aload_n 0, 1) := by decide +kernel
theorem zd140_43 : decode zxm140.2.1 43 = .ok (.getfield 46, 3) := by decide +kernel
theorem zd140_46 : decode zxm140.2.1 46 = .ok (.invokevirtual 211, 3) := by decide +kernel
theorem zd140_49 : decode zxm140.2.1 49 = .ok (.iconst 0, 1) := by decide +kernel
theorem zd140_50 : decode zxm140.2.1 50 = .ok (.istore_n 3, 1) := by decide +kernel
theorem zd140_51 : decode zxm140.2.1 51 = .ok (.iload_n 3, 1) := by decide +kernel
theorem zd140_52 : decode zxm140.2.1 52 = .ok (.iload_n 1, 1) := by decide +kernel
theorem zd140_53 : decode zxm140.2.1 53 = .ok (.if_icmp .ge 75, 3) := by decide +kernel
theorem zd140_56 : decode zxm140.2.1 56 = .ok (.aload_n 0, 1) := by decide +kernel
theorem zd140_57 : decode zxm140.2.1 57 = .ok (.getfield 39, 3) := by decide +kernel
theorem zd140_60 : decode zxm140.2.1 60 = .ok (.iconst 2, 1) := by decide +kernel
theorem zd140_61 : decode zxm140.2.1 61 = .ok (.iload_n 3, 1) := by decide +kernel
theorem zd140_62 : decode zxm140.2.1 62 = .ok (.imul, 1) := by decide +kernel
theorem zd140_63 : decode zxm140.2.1 63 = .ok (.invokevirtual 303, 3) := by decide +kernel
theorem zd140_66 : decode zxm140.2.1 66 = .ok (.istore 4, 2) := by decide +kernel
theorem zd140_68 : decode zxm140.2.1 68 = .ok (.aload_n 0, 1) := by decide +kernel
theorem zd140_69 : decode zxm140.2.1 69 = .ok (.getfield 39, 3) := by decide +kernel
theorem zd140_72 : decode zxm140.2.1 72 = .ok (.iconst 2, 1) := by decide +kernel
theorem zd140_73 : decode zxm140.2.1 73 = .ok (.iload_n 3, 1) := by decide +kernel
theorem zd140_74 : decode zxm140.2.1 74 = .ok (.imul, 1) := by decide +kernel
theorem zd140_75 : decode zxm140.2.1 75 = .ok (.iconst 1, 1) := by decide +kernel
theorem zd140_76 : decode zxm140.2.1 76 = .ok (.iadd, 1) := by decide +kernel
theorem zd140_77 : decode zxm140.2.1 77 = .ok (.invokevirtual 303, 3) := by decide +kernel
theorem zd140_80 : decode zxm140.2.1 80 = .ok (.istore 5, 2) := by decide +kernel
theorem zd140_82 : decode zxm140.2.1 82 = .ok (.iload 4, 2) := by decide +kernel
theorem zd140_84 : decode zxm140.2.1 84 = .ok (.iload 5, 2) := by decide +kernel
theorem zd140_86 : decode zxm140.2.1 86 = .ok (.invokestatic 130, 3) := by decide +kernel
theorem zd140_89 : decode zxm140.2.1 89 = .ok (.ifCond .ne 6, 3) := by decide +kernel
theorem zd140_92 : decode zxm140.2.1 92 = .ok (.bipush (-2), 2) := by decide +kernel
theorem zd140_94 : decode zxm140.2.1 94 = .ok (.ireturn, 1) := by decide +kernel
theorem zd140_95 : decode zxm140.2.1 95 = .ok (.aload_n 0, 1) := by decide +kernel
theorem zd140_96 : decode zxm140.2.1 96 = .ok (.getfield 81, 3) := by decide +kernel
theorem zd140_99 : decode zxm140.2.1 99 = .ok (.iload 4, 2) := by decide +kernel
theorem zd140_101 : decode zxm140.2.1 101 = .ok (.iload 5, 2) := by decide +kernel
theorem zd140_103 : decode zxm140.2.1 103 = .ok (.invokevirtual 214, 3) := by decide +kernel
theorem zd140_106 : decode zxm140.2.1 106 = .ok (.aload_n 0, 1) := by decide +kernel
theorem zd140_107 : decode zxm140.2.1 107 = .ok (.getfield 119, 3) := by decide +kernel
theorem zd140_110 : decode zxm140.2.1 110 = .ok (.getfield 306, 3) := by decide +kernel
theorem zd140_113 : decode zxm140.2.1 113 = .ok (.iload_n 3, 1) := by decide +kernel
theorem zd140_114 : decode zxm140.2.1 114 = .ok (.aload_n 0, 1) := by decide +kernel
theorem zd140_115 : decode zxm140.2.1 115 = .ok (.getfield 81, 3) := by decide +kernel
theorem zd140_118 : decode zxm140.2.1 118 = .ok (.getfield 218, 3) := by decide +kernel
theorem zd140_121 : decode zxm140.2.1 121 = .ok (.iastore, 1) := by decide +kernel
theorem zd140_122 : decode zxm140.2.1 122 = .ok (.iinc 3 1, 3) := by decide +kernel
theorem zd140_125 : decode zxm140.2.1 125 = .ok (.goto (-74), 3) := by decide +kernel
theorem zd140_128 : decode zxm140.2.1 128 = .ok (.aload_n 0, 1) := by decide +kernel
theorem zd140_129 : decode zxm140.2.1 129 = .ok (.getfield 119, 3) := by decide +kernel
theorem zd140_132 : decode zxm140.2.1 132 = .ok (.iload_n 1, 1) := by decide +kernel
theorem zd140_133 : decode zxm140.2.1 133 = .ok (.invokevirtual 308, 3) := by decide +kernel
theorem zd140_136 : decode zxm140.2.1 136 = .ok (.istore_n 3, 1) := by decide +kernel
theorem zd140_137 : decode zxm140.2.1 137 = .ok (.iload_n 3, 1) := by decide +kernel
theorem zd140_138 : decode zxm140.2.1 138 = .ok (.iconst (-1), 1) := by decide +kernel
theorem zd140_139 : decode zxm140.2.1 139 = .ok (.if_icmp .ne 6, 3) := by decide +kernel
theorem zd140_142 : decode zxm140.2.1 142 = .ok (.bipush (-2), 2) := by decide +kernel
theorem zd140_144 : decode zxm140.2.1 144 = .ok (.ireturn, 1) := by decide +kernel
theorem zd140_145 : decode zxm140.2.1 145 = .ok (.iload_n 2, 1) := by decide +kernel
theorem zd140_146 : decode zxm140.2.1 146 = .ok (.ifCond .ne 10, 3) := by decide +kernel
theorem zd140_149 : decode zxm140.2.1 149 = .ok (.iload_n 3, 1) := by decide +kernel
theorem zd140_150 : decode zxm140.2.1 150 = .ok (.invokestatic 235, 3) := by decide +kernel
theorem zd140_153 : decode zxm140.2.1 153 = .ok (.goto 4, 3) := by decide +kernel
theorem zd140_156 : decode zxm140.2.1 156 = .ok (.iload_n 3, 1) := by decide +kernel
theorem zd140_157 : decode zxm140.2.1 157 = .ok (.ireturn, 1) := by decide +kernel
theorem zt_X_named {x1 : Int} {x2 : Int} {f0 : Int} {f4 : Int} {f5 : Int} {f6 : Int} {f7 : Int} {f8 : Int} {f9 : Int} {f10 : Int} {f11 : Int} {f12 : Int} {f13 : Int} {f14 : Int} {f15 : Int} {f16 : Int} {f17 : Int} {f18 : Int} {g0 : (Int → Int)} {g1 : (Int → Int)} {g2 : (Int → Int)} {g3 : (Int → Int)} {g4 : (Int → Int)} {g5 : (Int → Int)} {g6 : (Int → Int)} {g7 : (Int → Int)} {g8 : (Int → Int)} {g9 : (Int → Int)} {g10 : (Int → Int)} {g11 : (Int → Int)} {g12 : (Int → Int)} {g13 : (Int → Int)} {g14 : (Int → Int)} {o : Int × Int × Int × Int × Int × Int × Int × Int × (Int → Int) × (Int → Int) × (Int → Int) × (Int → Int) × (Int → Int) × (Int → Int)} (h : zf_X_named x1 x2 f0 f4 f5 f6 f7 f8 f9 f10 f11 f12 f13 f14 f15 f16 f17 f18 g0 g1 g2 g3 g4 g5 g6 g7 g8 g9 g10 g11 g12 g13 g14 = some o) : zv_Fn z_TB z_cl z_KX zy_X_named zxm140 (11, 660) [.inr 0, .inl x1, .inl x2] [.inl f0, .inr 4, .inr 1000, .inr 1000, .inl f4, .inl f5, .inl f6, .inl f7, .inl f8, .inl f9, .inl f10, .inl f11, .inl f12, .inl f13, .inl f14, .inl f15, .inl f16, .inl f17, .inl f18] [g0, g1, g2, g3, g4, g5, g6, g7, g8, g9, g10, g11, g12, g13, g14] (some o.1) [.inl o.2.1, .inr 4, .inr 1000, .inr 1000, .inl o.2.2.1, .inl o.2.2.2.1, .inl o.2.2.2.2.1, .inl f7, .inl f8, .inl o.2.2.2.2.2.1, .inl f10, .inl f11, .inl f12, .inl f13, .inl f14, .inl o.2.2.2.2.2.2.1, .inl f16, .inl o.2.2.2.2.2.2.2.1, .inl f18] [o.2.2.2.2.2.2.2.2.1, g1, o.2.2.2.2.2.2.2.2.2.1, g3, g4, g5, g6, g7, g8, g9, o.2.2.2.2.2.2.2.2.2.2.1, g11, o.2.2.2.2.2.2.2.2.2.2.2.1, o.2.2.2.2.2.2.2.2.2.2.2.2.1, o.2.2.2.2.2.2.2.2.2.2.2.2.2] := zv_meth (K := (z_KF0, z_KC0, z_KL0, z_KT0, [], [], [], none)) (FT := z_FT) (MT := z_MT) (n := 3) zxp140 (z_ks0 _ (fun _ h => List.mem_cons_of_mem _ h) _ _ _ _ (fun j r h _ => by cases h)) (fun _ _ => zs_KX_p) zyw_X_named (fun va F G h => by obtain ⟨rfl, _⟩ := h; rfl) (fun va F G h => by obtain ⟨rfl, _⟩ := h; rfl) rfl fun good va F G hB hret hvret hP => by
  obtain ⟨rfl, rfl, rfl⟩ := hP
  have l0 : ∀ (n : Nat) (x1 : Int) (x2 : Int) (x3 : Int) (f0 : Int) (f4 : Int) (f5 : Int) (f6 : Int) (f9 : Int) (f15 : Int) (f17 : Int) (g0 : (Int → Int)) (g2 : (Int → Int)) (g10 : (Int → Int)) (g12 : (Int → Int)) (g13 : (Int → Int)) (g14 : (Int → Int)) (q : ((Int × Int × Int × Int × Int × Int × (Int → Int) × (Int → Int) × (Int → Int)) ⊕ (Int × Int × Int × Int × Int × Int × Int × Int × (Int → Int) × (Int → Int) × (Int → Int) × (Int → Int) × (Int → Int) × (Int → Int)))), zf_X_named_l0 x1 f0 f7 f8 f10 f11 f12 f13 f14 f16 f18 g0 g1 g3 g4 g5 g6 g7 g8 g9 g11 g13 g14 n x3 f4 f5 f6 f9 f15 f17 g2 g10 g12 = some q → (Sum.elim (fun e : Int × Int × Int × Int × Int × Int × (Int → Int) × (Int → Int) × (Int → Int) => good 128 [.inr 0, .inl x1, .inl x2, .inr 1000, .inr 1000, .inr 1000] [] [.inl f0, .inr 4, .inr 3, .inr 4, .inl e.1, .inl e.2.1, .inl e.2.2.1, .inl f7, .inl f8, .inl e.2.2.2.1, .inl f10, .inl f11, .inl f12, .inl f13, .inl f14, .inl e.2.2.2.2.1, .inl f16, .inl e.2.2.2.2.2.1, .inl f18] [g0, g1, e.2.2.2.2.2.2.1, g3, g4, g5, g6, g7, g8, g9, e.2.2.2.2.2.2.2.1, g11, e.2.2.2.2.2.2.2.2, g13, g14]) (fun w : Int × Int × Int × Int × Int × Int × Int × Int × (Int → Int) × (Int → Int) × (Int → Int) × (Int → Int) × (Int → Int) × (Int → Int) => w = o) q) → good 51 [.inr 0, .inl x1, .inl x2, .inl x3, .inr 1000, .inr 1000] [] [.inl f0, .inr 4, .inr 3, .inr 4, .inl f4, .inl f5, .inl f6, .inl f7, .inl f8, .inl f9, .inl f10, .inl f11, .inl f12, .inl f13, .inl f14, .inl f15, .inl f16, .inl f17, .inl f18] [g0, g1, g2, g3, g4, g5, g6, g7, g8, g9, g10, g11, g12, g13, g14] := by
    intro n
    induction n with
    | zero => intro x1 x2 x3 f0 f4 f5 f6 f9 f15 f17 g0 g2 g10 g12 g13 g14 q h; exact absurd (show none = some q from h) (fun h => by cases h)
    | succ n ih =>
      intro x1 x2 x3 f0 f4 f5 f6 f9 f15 f17 g0 g2 g10 g12 g13 g14 q h hK
      replace h : zf_X_named_l0_b x1 f0 f7 f8 f10 f11 f12 f13 f14 f16 f18 g0 g1 g3 g4 g5 g6 g7 g8 g9 g11 g13 g14 (zf_X_named_l0 x1 f0 f7 f8 f10 f11 f12 f13 f14 f16 f18 g0 g1 g3 g4 g5 g6 g7 g8 g9 g11 g13 g14 n) x3 f4 f5 f6 f9 f15 f17 g2 g10 g12 = some q := h
      unfold zf_X_named_l0_b at h
      refine zv_ild hB zd140_51 rfl rfl ?_
      refine zv_ild hB zd140_52 rfl rfl ?_
      refine zv_cge hB zd140_53 rfl (fun hc8 => ?_) (fun hc8 => ?_)
      · rw [if_neg (Int.not_lt.mpr hc8)] at h
        have hq := Option.some.inj h
        subst hq
        refine zv_wk hB (L' := [.inr 0, .inl x1, .inl x2, .inr 1000, .inr 1000, .inr 1000]) (F' := [.inl f0, .inr 4, .inr 3, .inr 4, .inl f4, .inl f5, .inl f6, .inl f7, .inl f8, .inl f9, .inl f10, .inl f11, .inl f12, .inl f13, .inl f14, .inl f15, .inl f16, .inl f17, .inl f18]) ⟨fun _ => rfl, fun _ => rfl, fun _ => rfl, fun (h : zv_is (.inr 1000)) => (Nat.lt_irrefl 1000 h).elim, fun (h : zv_is (.inr 1000)) => (Nat.lt_irrefl 1000 h).elim, fun (h : zv_is (.inr 1000)) => (Nat.lt_irrefl 1000 h).elim, trivial⟩ ⟨fun _ => rfl, fun _ => rfl, fun _ => rfl, fun _ => rfl, fun _ => rfl, fun _ => rfl, fun _ => rfl, fun _ => rfl, fun _ => rfl, fun _ => rfl, fun _ => rfl, fun _ => rfl, fun _ => rfl, fun _ => rfl, fun _ => rfl, fun _ => rfl, fun _ => rfl, fun _ => rfl, fun _ => rfl, trivial⟩ ?_
        exact hK
      · rw [if_pos hc8] at h
        refine zv_ald hB zd140_56 rfl rfl rfl ?_
        refine zv_getr hB zd140_57 rfl ?_
        refine zv_con hB zd140_60 rfl ?_
        refine zv_ild hB zd140_61 rfl rfl ?_
        refine zv_mulw hB zd140_62 ?_
        obtain ⟨r9, hr9, h⟩ := zi_bind h
        refine zv_cv hB (zv_emq (va2 := [.inr 1, .inl (zi_w (2 * x3))]) (F := [.inl f0, .inr 4, .inr 3, .inr 4, .inl f4, .inl f5, .inl f6, .inl f7, .inl f8, .inl f9, .inl f10, .inl f11, .inl f12, .inl f13, .inl f14, .inl f15, .inl f16, .inl f17, .inl f18]) (F' := [.inl f0, .inr 4, .inr 3, .inr 4, .inl f4, .inl f5, .inl f6, .inl f7, .inl f8, .inl f9, .inl f10, .inl f11, .inl f12, .inl f13, .inl f14, .inl f15, .inl f16, .inl f17, .inl f18]) (G := [g0, g1, g2, g3, g4, g5, g6, g7, g8, g9, g10, g11, g12, g13, g14]) (G' := [g0, g1, g2, g3, g4, g5, g6, g7, g8, g9, g10, g11, g12, g13, g14]) (ρ := [1, 6]) (φ := []) (ψ := [1]) [none, none, none, none, none, none, none, none, none, none, none, none, none, none, none, none, none, none, none] [none, some 0, none, none, none, none, none, none, none, none, none, none, none, none, none] zyw_Tape_byteAt zyw_X_named zye_X_named (by decide +kernel) (zt_Tape_byteAt hr9) trivial ⟨rfl, trivial⟩ rfl rfl rfl rfl rfl rfl rfl) zd140_63 zxt138 rfl (by decide) (by decide) rfl ?_
        refine zv_ist hB zd140_66 rfl rfl rfl ?_
        refine zv_ald hB zd140_68 rfl rfl rfl ?_
        refine zv_getr hB zd140_69 rfl ?_
        refine zv_con hB zd140_72 rfl ?_
        refine zv_ild hB zd140_73 rfl rfl ?_
        refine zv_mulw hB zd140_74 ?_
        refine zv_con hB zd140_75 rfl ?_
        refine zv_addw hB zd140_76 ?_
        obtain ⟨r10, hr10, h⟩ := zi_bind h
        refine zv_cv hB (zv_emq (va2 := [.inr 1, .inl (zi_w ((zi_w (2 * x3)) + 1))]) (F := [.inl f0, .inr 4, .inr 3, .inr 4, .inl f4, .inl f5, .inl f6, .inl f7, .inl f8, .inl f9, .inl f10, .inl f11, .inl f12, .inl f13, .inl f14, .inl f15, .inl f16, .inl f17, .inl f18]) (F' := [.inl f0, .inr 4, .inr 3, .inr 4, .inl f4, .inl f5, .inl f6, .inl f7, .inl f8, .inl f9, .inl f10, .inl f11, .inl f12, .inl f13, .inl f14, .inl f15, .inl f16, .inl f17, .inl f18]) (G := [g0, g1, g2, g3, g4, g5, g6, g7, g8, g9, g10, g11, g12, g13, g14]) (G' := [g0, g1, g2, g3, g4, g5, g6, g7, g8, g9, g10, g11, g12, g13, g14]) (ρ := [1, 6]) (φ := []) (ψ := [1]) [none, none, none, none, none, none, none, none, none, none, none, none, none, none, none, none, none, none, none] [none, some 0, none, none, none, none, none, none, none, none, none, none, none, none, none] zyw_Tape_byteAt zyw_X_named zye_X_named (by decide +kernel) (zt_Tape_byteAt hr10) trivial ⟨rfl, trivial⟩ rfl rfl rfl rfl rfl rfl rfl) zd140_77 zxt138 rfl (by decide) (by decide) rfl ?_
        refine zv_ist hB zd140_80 rfl rfl rfl ?_
        refine zv_ild hB zd140_82 rfl rfl ?_
        refine zv_ild hB zd140_84 rfl rfl ?_
        obtain ⟨r11, hr11, h⟩ := zi_bind h
        refine zv_cs hB (zv_emq (va2 := [.inl r9, .inl r10]) (F := [.inl f0, .inr 4, .inr 3, .inr 4, .inl f4, .inl f5, .inl f6, .inl f7, .inl f8, .inl f9, .inl f10, .inl f11, .inl f12, .inl f13, .inl f14, .inl f15, .inl f16, .inl f17, .inl f18]) (F' := [.inl f0, .inr 4, .inr 3, .inr 4, .inl f4, .inl f5, .inl f6, .inl f7, .inl f8, .inl f9, .inl f10, .inl f11, .inl f12, .inl f13, .inl f14, .inl f15, .inl f16, .inl f17, .inl f18]) (G := [g0, g1, g2, g3, g4, g5, g6, g7, g8, g9, g10, g11, g12, g13, g14]) (G' := [g0, g1, g2, g3, g4, g5, g6, g7, g8, g9, g10, g11, g12, g13, g14]) (ρ := []) (φ := []) (ψ := []) [none, none, none, none, none, none, none, none, none, none, none, none, none, none, none, none, none, none, none] [none, none, none, none, none, none, none, none, none, none, none, none, none, none, none] zyw_X_isPlace zyw_X_named zye_X_named (by decide +kernel) (zt_X_isPlace hr11) trivial trivial rfl rfl rfl rfl rfl rfl rfl) zd140_86 zxt16 rfl (by decide) (by decide) rfl ?_
        refine zv_zne hB zd140_89 rfl (fun hc12 => ?_) (fun hc12 => ?_)
        · rw [if_neg hc12] at h
          refine zv_ald hB zd140_95 rfl rfl rfl ?_
          refine zv_getr hB zd140_96 rfl ?_
          refine zv_ild hB zd140_99 rfl rfl ?_
          refine zv_ild hB zd140_101 rfl rfl ?_
          obtain ⟨r13, hr13, h⟩ := zi_bind h
          refine zv_cv hB (zv_emq (va2 := [.inr 2, .inl r9, .inl r10]) (F := [.inl f0, .inr 4, .inr 3, .inr 4, .inl f4, .inl f5, .inl f6, .inl f7, .inl f8, .inl f9, .inl f10, .inl f11, .inl f12, .inl f13, .inl f14, .inl f15, .inl f16, .inl f17, .inl f18]) (F' := [.inl f0, .inr 4, .inr 3, .inr 4, .inl r13.2.2.2.1, .inl r13.1, .inl r13.2.1, .inl f7, .inl f8, .inl r13.2.2.1, .inl f10, .inl f11, .inl f12, .inl f13, .inl f14, .inl r13.2.2.2.2.1, .inl f16, .inl r13.2.2.2.2.2.1, .inl f18]) (G := [g0, g1, g2, g3, g4, g5, g6, g7, g8, g9, g10, g11, g12, g13, g14]) (G' := [g0, g1, r13.2.2.2.2.2.2.1, g3, g4, g5, g6, g7, g8, g9, r13.2.2.2.2.2.2.2, g11, g12, g13, g14]) (ρ := [2, 4, 7, 3, 8, 9, 10, 11, 12, 13, 14, 15, 16]) (φ := [3, 2, 5, 6, 7, 8, 9, 10, 11, 12, 13, 14, 4, 15, 16, 17, 18]) (ψ := [2, 3, 4, 5, 6, 7, 8, 9, 10, 11]) [none, none, some 1, some 0, some 12, some 2, some 3, some 4, some 5, some 6, some 7, some 8, some 9, some 10, some 11, some 13, some 14, some 15, some 16] [none, none, some 0, some 1, some 2, some 3, some 4, some 5, some 6, some 7, some 8, some 9, none, none, none] zyw_View_look zyw_X_named zye_X_named (by decide +kernel) (zt_View_look hr13) ⟨⟨_, rfl, fun _ => rfl⟩, ⟨_, rfl, fun _ => rfl⟩, ⟨_, rfl, fun _ => rfl⟩, ⟨_, rfl, fun _ => rfl⟩, ⟨_, rfl, fun _ => rfl⟩, ⟨_, rfl, fun _ => rfl⟩, ⟨_, rfl, fun _ => rfl⟩, ⟨_, rfl, fun _ => rfl⟩, ⟨_, rfl, fun _ => rfl⟩, ⟨_, rfl, fun _ => rfl⟩, ⟨_, rfl, fun _ => rfl⟩, ⟨_, rfl, fun _ => rfl⟩, ⟨_, rfl, fun _ => rfl⟩, ⟨_, rfl, fun _ => rfl⟩, ⟨_, rfl, fun _ => rfl⟩, ⟨_, rfl, fun _ => rfl⟩, ⟨_, rfl, fun _ => rfl⟩, trivial⟩ ⟨rfl, rfl, rfl, rfl, rfl, rfl, rfl, rfl, rfl, rfl, trivial⟩ rfl rfl rfl rfl rfl rfl rfl) zd140_103 zxt85 rfl (by decide) (by decide) rfl ?_
          refine zv_ald hB zd140_106 rfl rfl rfl ?_
          refine zv_getr hB zd140_107 rfl ?_
          refine zv_getr hB zd140_110 rfl ?_
          refine zv_ild hB zd140_113 rfl rfl ?_
          refine zv_ald hB zd140_114 rfl rfl rfl ?_
          refine zv_getr hB zd140_115 rfl ?_
          refine zv_getf hB zd140_118 rfl rfl (fun _ _ => ?_)
          obtain ⟨c14, h⟩ := zi_if h
          refine zv_iast hB zd140_121 rfl rfl (zi_ix_ok c14).1 (zi_ix_ok c14).2 ?_
          refine zv_iincw hB zd140_122 rfl rfl ?_
          refine zv_goto hB zd140_125 rfl ?_
          refine zv_wk hB (L' := [.inr 0, .inl x1, .inl x2, .inl (zi_w (x3 + 1)), .inr 1000, .inr 1000]) (F' := [.inl f0, .inr 4, .inr 3, .inr 4, .inl r13.2.2.2.1, .inl r13.1, .inl r13.2.1, .inl f7, .inl f8, .inl r13.2.2.1, .inl f10, .inl f11, .inl f12, .inl f13, .inl f14, .inl r13.2.2.2.2.1, .inl f16, .inl r13.2.2.2.2.2.1, .inl f18]) ⟨fun _ => rfl, fun _ => rfl, fun _ => rfl, fun _ => rfl, fun (h : zv_is (.inr 1000)) => (Nat.lt_irrefl 1000 h).elim, fun (h : zv_is (.inr 1000)) => (Nat.lt_irrefl 1000 h).elim, trivial⟩ ⟨fun _ => rfl, fun _ => rfl, fun _ => rfl, fun _ => rfl, fun _ => rfl, fun _ => rfl, fun _ => rfl, fun _ => rfl, fun _ => rfl, fun _ => rfl, fun _ => rfl, fun _ => rfl, fun _ => rfl, fun _ => rfl, fun _ => rfl, fun _ => rfl, fun _ => rfl, fun _ => rfl, fun _ => rfl, trivial⟩ ?_
          exact ih _ _ _ _ _ _ _ _ _ _ _ _ _ _ _ _ q h hK
        · rw [if_pos hc12] at h
          refine zv_con hB zd140_92 rfl ?_
          have hw : ((-2), f0, f4, f5, f6, f9, f15, f17, g0, g2, g10, g12, g13, g14) = o := zi_rk (Option.some.inj h) hK
          refine zv_wk hB (L' := [.inr 0, .inl x1, .inl x2, .inl x3, .inl r9, .inl r10]) (F' := [.inl f0, .inr 4, .inr 1000, .inr 1000, .inl f4, .inl f5, .inl f6, .inl f7, .inl f8, .inl f9, .inl f10, .inl f11, .inl f12, .inl f13, .inl f14, .inl f15, .inl f16, .inl f17, .inl f18]) ⟨fun _ => rfl, fun _ => rfl, fun _ => rfl, fun _ => rfl, fun _ => rfl, fun _ => rfl, trivial⟩ ⟨fun _ => rfl, fun _ => rfl, fun (h : zv_is (.inr 1000)) => (Nat.lt_irrefl 1000 h).elim, fun (h : zv_is (.inr 1000)) => (Nat.lt_irrefl 1000 h).elim, fun _ => rfl, fun _ => rfl, fun _ => rfl, fun _ => rfl, fun _ => rfl, fun _ => rfl, fun _ => rfl, fun _ => rfl, fun _ => rfl, fun _ => rfl, fun _ => rfl, fun _ => rfl, fun _ => rfl, fun _ => rfl, fun _ => rfl, trivial⟩ ?_
          subst hw
          exact hret _ _ _ _ _ zd140_94 (by trivial) ⟨rfl, rfl, rfl⟩
  unfold zf_X_named at h
  refine zv_ild hB zd140_0 rfl rfl ?_
  refine zv_con hB zd140_1 rfl ?_
  refine zv_con hB zd140_2 rfl ?_
  obtain ⟨r1, hr1, h⟩ := zi_bind h
  refine zv_cs hB (zv_emq (va2 := [.inl x1, .inl 2, .inl 8]) (F := [.inl f0, .inr 4, .inr 1000, .inr 1000, .inl f4, .inl f5, .inl f6, .inl f7, .inl f8, .inl f9, .inl f10, .inl f11, .inl f12, .inl f13, .inl f14, .inl f15, .inl f16, .inl f17, .inl f18]) (F' := [.inl f0, .inr 4, .inr 1000, .inr 1000, .inl f4, .inl f5, .inl f6, .inl f7, .inl f8, .inl f9, .inl f10, .inl f11, .inl f12, .inl f13, .inl f14, .inl f15, .inl f16, .inl f17, .inl f18]) (G := [g0, g1, g2, g3, g4, g5, g6, g7, g8, g9, g10, g11, g12, g13, g14]) (G' := [g0, g1, g2, g3, g4, g5, g6, g7, g8, g9, g10, g11, g12, g13, g14]) (ρ := []) (φ := []) (ψ := []) [none, none, none, none, none, none, none, none, none, none, none, none, none, none, none, none, none, none, none] [none, none, none, none, none, none, none, none, none, none, none, none, none, none, none] zyw_X_isWithin zyw_X_named zye_X_named (by decide +kernel) (zt_X_isWithin hr1) trivial trivial rfl rfl rfl rfl rfl rfl rfl) zd140_4 zxt15 rfl (by decide) (by decide) rfl ?_
  refine zv_zeq hB zd140_7 rfl (fun hc2 => ?_) (fun hc2 => ?_)
  · rw [if_pos hc2] at h
    refine zv_con hB zd140_32 rfl ?_
    have hw := Option.some.inj h
    subst hw
    exact hret _ _ _ _ _ zd140_33 (by trivial) ⟨rfl, rfl, rfl⟩
  · rw [if_neg hc2] at h
    refine zv_ild hB zd140_10 rfl rfl ?_
    refine zv_con hB zd140_11 rfl ?_
    refine zv_con hB zd140_12 rfl ?_
    obtain ⟨r3, hr3, h⟩ := zi_bind h
    refine zv_cs hB (zv_emq (va2 := [.inl x2, .inl 0, .inl 1]) (F := [.inl f0, .inr 4, .inr 1000, .inr 1000, .inl f4, .inl f5, .inl f6, .inl f7, .inl f8, .inl f9, .inl f10, .inl f11, .inl f12, .inl f13, .inl f14, .inl f15, .inl f16, .inl f17, .inl f18]) (F' := [.inl f0, .inr 4, .inr 1000, .inr 1000, .inl f4, .inl f5, .inl f6, .inl f7, .inl f8, .inl f9, .inl f10, .inl f11, .inl f12, .inl f13, .inl f14, .inl f15, .inl f16, .inl f17, .inl f18]) (G := [g0, g1, g2, g3, g4, g5, g6, g7, g8, g9, g10, g11, g12, g13, g14]) (G' := [g0, g1, g2, g3, g4, g5, g6, g7, g8, g9, g10, g11, g12, g13, g14]) (ρ := []) (φ := []) (ψ := []) [none, none, none, none, none, none, none, none, none, none, none, none, none, none, none, none, none, none, none] [none, none, none, none, none, none, none, none, none, none, none, none, none, none, none] zyw_X_isWithin zyw_X_named zye_X_named (by decide +kernel) (zt_X_isWithin hr3) trivial trivial rfl rfl rfl rfl rfl rfl rfl) zd140_13 zxt15 rfl (by decide) (by decide) rfl ?_
    refine zv_zeq hB zd140_16 rfl (fun hc4 => ?_) (fun hc4 => ?_)
    · rw [if_pos hc4] at h
      refine zv_con hB zd140_32 rfl ?_
      have hw := Option.some.inj h
      subst hw
      exact hret _ _ _ _ _ zd140_33 (by trivial) ⟨rfl, rfl, rfl⟩
    · rw [if_neg hc4] at h
      refine zv_ald hB zd140_19 rfl rfl rfl ?_
      refine zv_getr hB zd140_20 rfl ?_
      refine zv_con hB zd140_23 rfl ?_
      refine zv_ild hB zd140_24 rfl rfl ?_
      refine zv_mulw hB zd140_25 ?_
      obtain ⟨r5, hr5, h⟩ := zi_bind h
      refine zv_cv hB (zv_emq (va2 := [.inr 1, .inl (zi_w (2 * x1))]) (F := [.inl f0, .inr 4, .inr 1000, .inr 1000, .inl f4, .inl f5, .inl f6, .inl f7, .inl f8, .inl f9, .inl f10, .inl f11, .inl f12, .inl f13, .inl f14, .inl f15, .inl f16, .inl f17, .inl f18]) (F' := [.inl r5.2, .inr 4, .inr 1000, .inr 1000, .inl f4, .inl f5, .inl f6, .inl f7, .inl f8, .inl f9, .inl f10, .inl f11, .inl f12, .inl f13, .inl f14, .inl f15, .inl f16, .inl f17, .inl f18]) (G := [g0, g1, g2, g3, g4, g5, g6, g7, g8, g9, g10, g11, g12, g13, g14]) (G' := [g0, g1, g2, g3, g4, g5, g6, g7, g8, g9, g10, g11, g12, g13, g14]) (ρ := [1]) (φ := [0]) (ψ := []) [some 0, none, none, none, none, none, none, none, none, none, none, none, none, none, none, none, none, none, none] [none, none, none, none, none, none, none, none, none, none, none, none, none, none, none] zyw_Tape_take zyw_X_named zye_X_named (by decide +kernel) (zt_Tape_take hr5) ⟨⟨_, rfl, fun _ => rfl⟩, trivial⟩ trivial rfl rfl rfl rfl rfl rfl rfl) zd140_26 zxt35 rfl (by decide) (by decide) rfl ?_
      refine zv_zne hB zd140_29 rfl (fun hc6 => ?_) (fun hc6 => ?_)
      · rw [if_neg hc6] at h
        refine zv_ald hB zd140_34 rfl rfl rfl ?_
        refine zv_getr hB zd140_35 rfl ?_
        refine zv_ald hB zd140_38 rfl rfl rfl ?_
        refine zv_getr hB zd140_39 rfl ?_
        refine zv_ald hB zd140_42 rfl rfl rfl ?_
        refine zv_getq hB zd140_43 rfl rfl rfl ?_
        obtain ⟨r7, hr7, h⟩ := zi_bind h
        refine zv_cv hB (zv_emq (va2 := [.inr 2, .inr 3, .inr 4]) (F := [.inl r5.2, .inr 4, .inr 1000, .inr 1000, .inl f4, .inl f5, .inl f6, .inl f7, .inl f8, .inl f9, .inl f10, .inl f11, .inl f12, .inl f13, .inl f14, .inl f15, .inl f16, .inl f17, .inl f18]) (F' := [.inl r5.2, .inr 4, .inr 3, .inr 4, .inl r7.1, .inl f5, .inl f6, .inl f7, .inl f8, .inl f9, .inl f10, .inl f11, .inl f12, .inl f13, .inl f14, .inl f15, .inl f16, .inl f17, .inl f18]) (G := [g0, g1, g2, g3, g4, g5, g6, g7, g8, g9, g10, g11, g12, g13, g14]) (G' := [r7.2, g1, g2, g3, g4, g5, g6, g7, g8, g9, g10, g11, g12, g13, g14]) (ρ := [2, 3, 4, 5]) (φ := [2, 3, 4]) (ψ := [0]) [none, none, some 0, some 1, some 2, none, none, none, none, none, none, none, none, none, none, none, none, none, none] [some 0, none, none, none, none, none, none, none, none, none, none, none, none, none, none] zyw_View_open zyw_X_named zye_X_named (by decide +kernel) (zt_View_open hr7) ⟨⟨_, rfl, fun (h : zv_is (.inr 1000)) => (Nat.lt_irrefl 1000 h).elim⟩, ⟨_, rfl, fun (h : zv_is (.inr 1000)) => (Nat.lt_irrefl 1000 h).elim⟩, ⟨_, rfl, fun _ => rfl⟩, trivial⟩ ⟨rfl, trivial⟩ rfl rfl rfl rfl rfl rfl rfl) zd140_46 zxt84 rfl (by decide) (by decide) rfl ?_
        refine zv_con hB zd140_49 rfl ?_
        refine zv_ist hB zd140_50 rfl rfl rfl ?_
        obtain ⟨q15, hq15, h⟩ := zi_bind h
        refine l0 _ _ _ _ _ _ _ _ _ _ _ _ _ _ _ _ _ q15 hq15 ?_
        rcases q15 with e16 | w21
        · replace h := zi_sl h
          show good 128 [.inr 0, .inl x1, .inl x2, .inr 1000, .inr 1000, .inr 1000] [] [.inl r5.2, .inr 4, .inr 3, .inr 4, .inl e16.1, .inl e16.2.1, .inl e16.2.2.1, .inl f7, .inl f8, .inl e16.2.2.2.1, .inl f10, .inl f11, .inl f12, .inl f13, .inl f14, .inl e16.2.2.2.2.1, .inl f16, .inl e16.2.2.2.2.2.1, .inl f18] [r7.2, g1, e16.2.2.2.2.2.2.1, g3, g4, g5, g6, g7, g8, g9, e16.2.2.2.2.2.2.2.1, g11, e16.2.2.2.2.2.2.2.2, g13, g14]
          refine zv_ald hB zd140_128 rfl rfl rfl ?_
          refine zv_getr hB zd140_129 rfl ?_
          refine zv_ild hB zd140_132 rfl rfl ?_
          obtain ⟨r17, hr17, h⟩ := zi_bind h
          refine zv_cv hB (zv_emq (va2 := [.inr 17, .inl x1]) (F := [.inl r5.2, .inr 4, .inr 3, .inr 4, .inl e16.1, .inl e16.2.1, .inl e16.2.2.1, .inl f7, .inl f8, .inl e16.2.2.2.1, .inl f10, .inl f11, .inl f12, .inl f13, .inl f14, .inl e16.2.2.2.2.1, .inl f16, .inl e16.2.2.2.2.2.1, .inl f18]) (F' := [.inl r5.2, .inr 4, .inr 3, .inr 4, .inl e16.1, .inl e16.2.1, .inl e16.2.2.1, .inl f7, .inl f8, .inl e16.2.2.2.1, .inl f10, .inl f11, .inl f12, .inl f13, .inl f14, .inl e16.2.2.2.2.1, .inl f16, .inl e16.2.2.2.2.2.1, .inl f18]) (G := [r7.2, g1, e16.2.2.2.2.2.2.1, g3, g4, g5, g6, g7, g8, g9, e16.2.2.2.2.2.2.2.1, g11, e16.2.2.2.2.2.2.2.2, g13, g14]) (G' := [r7.2, g1, e16.2.2.2.2.2.2.1, g3, g4, g5, g6, g7, g8, g9, e16.2.2.2.2.2.2.2.1, g11, e16.2.2.2.2.2.2.2.2, r17.2.1, r17.2.2]) (ρ := [17, 19, 18, 20]) (φ := []) (ψ := [13, 12, 14]) [none, none, none, none, none, none, none, none, none, none, none, none, none, none, none, none, none, none, none] [none, none, none, none, none, none, none, none, none, none, none, none, some 1, some 0, some 2] zyw_Chooser_fewestNamed zyw_X_named zye_X_named (by decide +kernel) (zt_Chooser_fewestNamed hr17) trivial ⟨rfl, rfl, rfl, trivial⟩ rfl rfl rfl rfl rfl rfl rfl) zd140_133 zxt141 rfl (by decide) (by decide) rfl ?_
          refine zv_ist hB zd140_136 rfl rfl rfl ?_
          refine zv_ild hB zd140_137 rfl rfl ?_
          refine zv_con hB zd140_138 rfl ?_
          refine zv_cne hB zd140_139 rfl (fun hc18 => ?_) (fun hc18 => ?_)
          · rw [if_neg hc18] at h
            refine zv_ild hB zd140_145 rfl rfl ?_
            refine zv_zne hB zd140_146 rfl (fun hc19 => ?_) (fun hc19 => ?_)
            · rw [if_neg hc19] at h
              refine zv_ild hB zd140_156 rfl rfl ?_
              have hw := Option.some.inj h
              refine zv_wk hB (L' := [.inr 0, .inl x1, .inl x2, .inl r17.1, .inr 1000, .inr 1000]) (F' := [.inl r5.2, .inr 4, .inr 1000, .inr 1000, .inl e16.1, .inl e16.2.1, .inl e16.2.2.1, .inl f7, .inl f8, .inl e16.2.2.2.1, .inl f10, .inl f11, .inl f12, .inl f13, .inl f14, .inl e16.2.2.2.2.1, .inl f16, .inl e16.2.2.2.2.2.1, .inl f18]) ⟨fun _ => rfl, fun _ => rfl, fun _ => rfl, fun _ => rfl, fun _ => rfl, fun _ => rfl, trivial⟩ ⟨fun _ => rfl, fun _ => rfl, fun (h : zv_is (.inr 1000)) => (Nat.lt_irrefl 1000 h).elim, fun (h : zv_is (.inr 1000)) => (Nat.lt_irrefl 1000 h).elim, fun _ => rfl, fun _ => rfl, fun _ => rfl, fun _ => rfl, fun _ => rfl, fun _ => rfl, fun _ => rfl, fun _ => rfl, fun _ => rfl, fun _ => rfl, fun _ => rfl, fun _ => rfl, fun _ => rfl, fun _ => rfl, fun _ => rfl, trivial⟩ ?_
              subst hw
              exact hret _ _ _ _ _ zd140_157 (by trivial) ⟨rfl, rfl, rfl⟩
            · rw [if_pos hc19] at h
              refine zv_ild hB zd140_149 rfl rfl ?_
              obtain ⟨r20, hr20, h⟩ := zi_bind h
              refine zv_cs hB (zv_emq (va2 := [.inl r17.1]) (F := [.inl r5.2, .inr 4, .inr 3, .inr 4, .inl e16.1, .inl e16.2.1, .inl e16.2.2.1, .inl f7, .inl f8, .inl e16.2.2.2.1, .inl f10, .inl f11, .inl f12, .inl f13, .inl f14, .inl e16.2.2.2.2.1, .inl f16, .inl e16.2.2.2.2.2.1, .inl f18]) (F' := [.inl r5.2, .inr 4, .inr 3, .inr 4, .inl e16.1, .inl e16.2.1, .inl e16.2.2.1, .inl f7, .inl f8, .inl e16.2.2.2.1, .inl f10, .inl f11, .inl f12, .inl f13, .inl f14, .inl e16.2.2.2.2.1, .inl f16, .inl e16.2.2.2.2.2.1, .inl f18]) (G := [r7.2, g1, e16.2.2.2.2.2.2.1, g3, g4, g5, g6, g7, g8, g9, e16.2.2.2.2.2.2.2.1, g11, e16.2.2.2.2.2.2.2.2, r17.2.1, r17.2.2]) (G' := [r7.2, g1, e16.2.2.2.2.2.2.1, g3, g4, g5, g6, g7, g8, g9, e16.2.2.2.2.2.2.2.1, g11, e16.2.2.2.2.2.2.2.2, r17.2.1, r17.2.2]) (ρ := []) (φ := []) (ψ := []) [none, none, none, none, none, none, none, none, none, none, none, none, none, none, none, none, none, none, none] [none, none, none, none, none, none, none, none, none, none, none, none, none, none, none] zyw_Integer_bitCount zyw_X_named zye_X_named (by decide +kernel) (zt_Integer_bitCount hr20) trivial trivial rfl rfl rfl rfl rfl rfl rfl) zd140_150 zxt102 rfl (by decide) (by decide) rfl ?_
              refine zv_goto hB zd140_153 rfl ?_
              have hw := Option.some.inj h
              refine zv_wk hB (L' := [.inr 0, .inl x1, .inl x2, .inl r17.1, .inr 1000, .inr 1000]) (F' := [.inl r5.2, .inr 4, .inr 1000, .inr 1000, .inl e16.1, .inl e16.2.1, .inl e16.2.2.1, .inl f7, .inl f8, .inl e16.2.2.2.1, .inl f10, .inl f11, .inl f12, .inl f13, .inl f14, .inl e16.2.2.2.2.1, .inl f16, .inl e16.2.2.2.2.2.1, .inl f18]) ⟨fun _ => rfl, fun _ => rfl, fun _ => rfl, fun _ => rfl, fun _ => rfl, fun _ => rfl, trivial⟩ ⟨fun _ => rfl, fun _ => rfl, fun (h : zv_is (.inr 1000)) => (Nat.lt_irrefl 1000 h).elim, fun (h : zv_is (.inr 1000)) => (Nat.lt_irrefl 1000 h).elim, fun _ => rfl, fun _ => rfl, fun _ => rfl, fun _ => rfl, fun _ => rfl, fun _ => rfl, fun _ => rfl, fun _ => rfl, fun _ => rfl, fun _ => rfl, fun _ => rfl, fun _ => rfl, fun _ => rfl, fun _ => rfl, fun _ => rfl, trivial⟩ ?_
              subst hw
              exact hret _ _ _ _ _ zd140_157 (by trivial) ⟨rfl, rfl, rfl⟩
          · rw [if_pos hc18] at h
            refine zv_con hB zd140_142 rfl ?_
            have hw := Option.some.inj h
            refine zv_wk hB (L' := [.inr 0, .inl x1, .inl x2, .inl r17.1, .inr 1000, .inr 1000]) (F' := [.inl r5.2, .inr 4, .inr 1000, .inr 1000, .inl e16.1, .inl e16.2.1, .inl e16.2.2.1, .inl f7, .inl f8, .inl e16.2.2.2.1, .inl f10, .inl f11, .inl f12, .inl f13, .inl f14, .inl e16.2.2.2.2.1, .inl f16, .inl e16.2.2.2.2.2.1, .inl f18]) ⟨fun _ => rfl, fun _ => rfl, fun _ => rfl, fun _ => rfl, fun _ => rfl, fun _ => rfl, trivial⟩ ⟨fun _ => rfl, fun _ => rfl, fun (h : zv_is (.inr 1000)) => (Nat.lt_irrefl 1000 h).elim, fun (h : zv_is (.inr 1000)) => (Nat.lt_irrefl 1000 h).elim, fun _ => rfl, fun _ => rfl, fun _ => rfl, fun _ => rfl, fun _ => rfl, fun _ => rfl, fun _ => rfl, fun _ => rfl, fun _ => rfl, fun _ => rfl, fun _ => rfl, fun _ => rfl, fun _ => rfl, fun _ => rfl, fun _ => rfl, trivial⟩ ?_
            subst hw
            exact hret _ _ _ _ _ zd140_144 (by trivial) ⟨rfl, rfl, rfl⟩
        · exact Option.some.inj h
      · rw [if_pos hc6] at h
        refine zv_con hB zd140_32 rfl ?_
        have hw := Option.some.inj h
        subst hw
        exact hret _ _ _ _ _ zd140_33 (by trivial) ⟨rfl, rfl, rfl⟩
/-! Law_amount (II)I -/
-- names: 0 Law('arg', 0), 1 (0, 14)(0, 4, 3), 2 (0, 14)(0, 4, 5), 3 (0, 14)(0, 4, 6), 4 (0, 200)(0, 4, 0), 5 (0, 40)(0, 4, 13), 6 (0, 200)(0, 4, 1), 7 (0, 13)(0, 4, 12), 8 (0, 14)(0, 4, 4)
-- fields: f0 = 0.clauses_, f1 = 0.answer_; arrays: g0 = 1, g1 = 2, g2 = 3, g3 = 4, g4 = 5, g5 = 6, g6 = 7, g7 = 8; out: [('ret', None), ('f', 1), ('g', 4)]
abbrev zy_Law_amount : zNL := (9, [(0, 4)], [(0, 4, 7, 0), (0, 4, 14, 1)], [(0, 4, 3, 1), (0, 4, 5, 2), (0, 4, 6, 3), (0, 4, 0, 4), (0, 4, 13, 5), (0, 4, 1, 6), (0, 4, 12, 7), (0, 4, 4, 8)], [(1, 0, 14, 0), (2, 0, 14, 1), (3, 0, 14, 2), (4, 0, 200, 3), (5, 0, 40, 4), (6, 0, 200, 5), (7, 0, 13, 6), (8, 0, 14, 7)])
theorem zyw_Law_amount : zv_wf zy_Law_amount = true := by decide +kernel
theorem zye_Law_amount : zv_ek2 zy_Law_amount = true := by decide +kernel
def zf_Law_amount_l0_b (x1 : Int) (x2 : Int) (f0 : Int) (g0 : (Int → Int)) (g1 : (Int → Int)) (g2 : (Int → Int)) (g3 : (Int → Int)) (g5 : (Int → Int)) (g6 : (Int → Int)) (g7 : (Int → Int)) (rec : Int → Int → (Int → Int) → Option (((Int × (Int → Int)) ⊕ (Int × Int × (Int → Int))))) (x3 : Int) (f1 : Int) (g4 : (Int → Int)) : Option (((Int × (Int → Int)) ⊕ (Int × Int × (Int → Int)))) := if x3 < f0 then (cond (zi_ix x3 14) (if (g0 x3) = x1 then ((zf_Law_run (g1 x3) (g2 x3) f1 g3 g4 g5 g6).bind fun r4 => (if r4.1 = 0 then (rec (zi_w (x3 + 1)) r4.2.1 r4.2.2) else (if r4.2.1 = 0 then (rec (zi_w (x3 + 1)) r4.2.1 r4.2.2) else ((zf_Law_run (g7 x3) (g1 x3) r4.2.1 g3 r4.2.2 g5 g6).bind fun r7 => (if r7.1 = 0 then (some (.inr (0, r7.2.1, r7.2.2))) else ((zf_Math_min x2 r7.2.1).bind fun r9 => ((zf_Math_max 0 r9).bind fun r10 => (some (.inr (r10, r7.2.1, r7.2.2)))))))))) else (rec (zi_w (x3 + 1)) f1 g4)) none) else (some (.inl (f1, g4)))
def zf_Law_amount_l0 (x1 : Int) (x2 : Int) (f0 : Int) (g0 : (Int → Int)) (g1 : (Int → Int)) (g2 : (Int → Int)) (g3 : (Int → Int)) (g5 : (Int → Int)) (g6 : (Int → Int)) (g7 : (Int → Int)) : Nat → Int → Int → (Int → Int) → Option (((Int × (Int → Int)) ⊕ (Int × Int × (Int → Int))))
  | 0, _, _, _ => none
  | n + 1, x3, f1, g4 => zf_Law_amount_l0_b x1 x2 f0 g0 g1 g2 g3 g5 g6 g7 (zf_Law_amount_l0 x1 x2 f0 g0 g1 g2 g3 g5 g6 g7 n) x3 f1 g4
def zf_Law_amount (x1 : Int) (x2 : Int) (f0 : Int) (f1 : Int) (g0 : (Int → Int)) (g1 : (Int → Int)) (g2 : (Int → Int)) (g3 : (Int → Int)) (g4 : (Int → Int)) (g5 : (Int → Int)) (g6 : (Int → Int)) (g7 : (Int → Int)) : Option (Int × Int × (Int → Int)) := (zf_Law_amount_l0 x1 x2 f0 g0 g1 g2 g3 g5 g6 g7 zi_fu 0 f1 g4).bind fun q11 => Sum.elim (fun e12 => (some (0, e12.1, e12.2))) (fun w13 => some w13) q11
theorem zd146_0 : decode zxm146.2.1 0 = .ok (.iconst 0, 1) := by decide +kernel
theorem zd146_1 : decode zxm146.2.1 1 = .ok (.istore_n 3, 1) := by decide +kernel
theorem zd146_2 : decode zxm146.2.1 2 = .ok (.iload_n 3, 1) := by decide +kernel
theorem zd146_3 : decode zxm146.2.1 3 = .ok (.aload_n 0, 1) := by decide +kernel
theorem zd146_4 : decode zxm146.2.1 4 = .ok (.getfield 32, 3) := by decide +kernel
theorem zd146_7 : decode zxm146.2.1 7 = .ok (.if_icmp .ge 81, 3) := by decide +kernel
theorem zd146_10 : decode zxm146.2.1 10 = .ok (.aload_n 0, 1) := by decide +kernel
theorem zd146_11 : decode zxm146.2.1 11 = .ok (.getfield 20, 3) := by decide +kernel
theorem zd146_14 : decode zxm146.2.1 14 = .ok (.iload_n 3, 1) := by decide +kernel
theorem zd146_15 : decode zxm146.2.1 15 = .ok (.iaload, 1) := by decide +kernel
theorem zd146_16 : decode zxm146.2.1 16 = .ok (.iload_n 1, 1) := by decide +kernel
theorem zd146_17 : decode zxm146.2.1 17 = .ok (.if_icmp .ne 65, 3) := by decide +kernel
theorem zd146_20 : decode zxm146.2.1 20 = .ok (.aload_n 0, 1) := by decide +kernel
theorem zd146_21 : decode zxm146.2.1 21 = .ok (.aload_n 0, 1) := by decide +kernel
theorem zd146_22 : decode zxm146.2.1 22 = .ok (.getfield 26, 3) := by decide +kernel
theorem zd146_25 : decode zxm146.2.1 25 = .ok (.iload_n 3, 1) := by decide +kernel
theorem zd146_26 : decode zxm146.2.1 26 = .ok (.iaload, 1) := by decide +kernel
theorem zd146_27 : decode zxm146.2.1 27 = .ok (.aload_n 0, 1) := by decide +kernel
theorem zd146_28 : decode zxm146.2.1 28 = .ok (.getfield 29, 3) := by decide +kernel
theorem zd146_31 : decode zxm146.2.1 31 = .ok (.iload_n 3, 1) := by decide +kernel
theorem zd146_32 : decode zxm146.2.1 32 = .ok (.iaload, 1) := by decide +kernel
theorem zd146_33 : decode zxm146.2.1 33 = .ok (.invokevirtual 93, 3) := by decide +kernel
theorem zd146_36 : decode zxm146.2.1 36 = .ok (.ifCond .eq 46, 3) := by decide +kernel
theorem zd146_39 : decode zxm146.2.1 39 = .ok (.aload_n 0, 1) := by decide +kernel
theorem zd146_40 : decode zxm146.2.1 40 = .ok (.getfield 62, 3) := by decide +kernel
theorem zd146_43 : decode zxm146.2.1 43 = .ok (.ifCond .eq 39, 3) := by decide +kernel
theorem zd146_46 : decode zxm146.2.1 46 = .ok (.aload_n 0, 1) := by decide +kernel
theorem zd146_47 : decode zxm146.2.1 47 = .ok (.aload_n 0, 1) := by decide +kernel
theorem zd146_48 : decode zxm146.2.1 48 = .ok (.getfield 23, 3) := by decide +kernel
theorem zd146_51 : decode zxm146.2.1 51 = .ok (.iload_n 3, 1) := by decide +kernel
theorem zd146_52 : decode zxm146.2.1 52 = .ok (.iaload, 1) := by decide +kernel
theorem zd146_53 : decode zxm146.2.1 53 = .ok (.aload_n 0, 1) := by decide +kernel
theorem zd146_54 : decode zxm146.2.1 54 = .ok (.getfield 26, 3) := by decide +kernel
theorem zd146_57 : decode zxm146.2.1 57 = .ok (.iload_n 3, 1) := by decide +kernel
theorem zd146_58 : decode zxm146.2.1 58 = .ok (.iaload, 1) := by decide +kernel
theorem zd146_59 : decode zxm146.2.1 59 = .ok (.invokevirtual 93, 3) := by decide +kernel
theorem zd146_62 : decode zxm146.2.1 62 = .ok (.ifCond .eq 18, 3) := by decide +kernel
theorem zd146_65 : decode zxm146.2.1 65 = .ok (.iconst 0, 1) := by decide +kernel
theorem zd146_66 : decode zxm146.2.1 66 = .ok (.iload_n 2, 1) := by decide +kernel
theorem zd146_67 : decode zxm146.2.1 67 = .ok (.aload_n 0, 1) := by decide +kernel
theorem zd146_68 : decode zxm146.2.1 68 = .ok (.getfield 62, 3) := by decide +kernel
theorem zd146_71 : decode zxm146.2.1 71 = .ok (.invokestatic 96, 3) := by decide +kernel
theorem zd146_74 : decode zxm146.2.1 74 = .ok (.invokestatic 102, 3) := by decide +kernel
theorem zd146_77 : decode zxm146.2.1 77 = .ok (.goto 4, 3) := by decide +kernel
theorem zd146_80 : decode zxm146.2.1 80 = .ok (.iconst 0, 1) := by decide +kernel
theorem zd146_81 : decode zxm146.2.1 81 = .ok (.ireturn, 1) := by decide +kernel
theorem zd146_82 : decode zxm146.2.1 82 = .ok (.iinc 3 1, 3) := by decide +kernel
theorem zd146_85 : decode zxm146.2.1 85 = .ok (.goto (-83), 3) := by decide +kernel
theorem zd146_88 : decode zxm146.2.1 88 = .ok (.iconst 0, 1) := by decide +kernel
theorem zd146_89 : decode zxm146.2.1 89 = .ok (.ireturn, 1) := by decide +kernel
theorem zt_Law_amount {x1 : Int} {x2 : Int} {f0 : Int} {f1 : Int} {g0 : (Int → Int)} {g1 : (Int → Int)} {g2 : (Int → Int)} {g3 : (Int → Int)} {g4 : (Int → Int)} {g5 : (Int → Int)} {g6 : (Int → Int)} {g7 : (Int → Int)} {o : Int × Int × (Int → Int)} (h : zf_Law_amount x1 x2 f0 f1 g0 g1 g2 g3 g4 g5 g6 g7 = some o) : zv_Fn z_TB z_cl z_KX zy_Law_amount zxm146 (2, 120) [.inr 0, .inl x1, .inl x2] [.inl f0, .inl f1] [g0, g1, g2, g3, g4, g5, g6, g7] (some o.1) [.inl f0, .inl o.2.1] [g0, g1, g2, g3, o.2.2, g5, g6, g7] := zv_meth (K := (z_KF2, z_KC2, z_KL2, z_KT2, [], [], [], none)) (FT := z_FT) (MT := z_MT) (n := 3) zxp146 (z_ks2 _ (fun _ h => List.mem_cons_of_mem _ h) _ _ _ _ (fun j r h _ => by cases h)) (fun _ _ => zs_KX_p) zyw_Law_amount (fun va F G h => by obtain ⟨rfl, _⟩ := h; rfl) (fun va F G h => by obtain ⟨rfl, _⟩ := h; rfl) rfl fun good va F G hB hret hvret hP => by
  obtain ⟨rfl, rfl, rfl⟩ := hP
  have l0 : ∀ (n : Nat) (x1 : Int) (x2 : Int) (x3 : Int) (f1 : Int) (g4 : (Int → Int)) (q : ((Int × (Int → Int)) ⊕ (Int × Int × (Int → Int)))), zf_Law_amount_l0 x1 x2 f0 g0 g1 g2 g3 g5 g6 g7 n x3 f1 g4 = some q → (Sum.elim (fun e : Int × (Int → Int) => good 88 [.inr 1000, .inr 1000, .inr 1000, .inr 1000] [] [.inl f0, .inl e.1] [g0, g1, g2, g3, e.2, g5, g6, g7]) (fun w : Int × Int × (Int → Int) => w = o) q) → good 2 [.inr 0, .inl x1, .inl x2, .inl x3] [] [.inl f0, .inl f1] [g0, g1, g2, g3, g4, g5, g6, g7] := by
    intro n
    induction n with
    | zero => intro x1 x2 x3 f1 g4 q h; exact absurd (show none = some q from h) (fun h => by cases h)
    | succ n ih =>
      intro x1 x2 x3 f1 g4 q h hK
      replace h : zf_Law_amount_l0_b x1 x2 f0 g0 g1 g2 g3 g5 g6 g7 (zf_Law_amount_l0 x1 x2 f0 g0 g1 g2 g3 g5 g6 g7 n) x3 f1 g4 = some q := h
      unfold zf_Law_amount_l0_b at h
      refine zv_ild hB zd146_2 rfl rfl ?_
      refine zv_ald hB zd146_3 rfl rfl rfl ?_
      refine zv_getf hB zd146_4 rfl rfl (fun _ _ => ?_)
      refine zv_cge hB zd146_7 rfl (fun hc1 => ?_) (fun hc1 => ?_)
      · rw [if_neg (Int.not_lt.mpr hc1)] at h
        have hq := Option.some.inj h
        subst hq
        refine zv_wk hB (L' := [.inr 1000, .inr 1000, .inr 1000, .inr 1000]) (F' := [.inl f0, .inl f1]) ⟨fun (h : zv_is (.inr 1000)) => (Nat.lt_irrefl 1000 h).elim, fun (h : zv_is (.inr 1000)) => (Nat.lt_irrefl 1000 h).elim, fun (h : zv_is (.inr 1000)) => (Nat.lt_irrefl 1000 h).elim, fun (h : zv_is (.inr 1000)) => (Nat.lt_irrefl 1000 h).elim, trivial⟩ ⟨fun _ => rfl, fun _ => rfl, trivial⟩ ?_
        exact hK
      · rw [if_pos hc1] at h
        refine zv_ald hB zd146_10 rfl rfl rfl ?_
        refine zv_getr hB zd146_11 rfl ?_
        refine zv_ild hB zd146_14 rfl rfl ?_
        obtain ⟨c2, h⟩ := zi_if h
        refine zv_iald hB zd146_15 rfl rfl (zi_ix_ok c2).1 (zi_ix_ok c2).2 (fun _ _ => ?_)
        refine zv_ild hB zd146_16 rfl rfl ?_
        refine zv_cne hB zd146_17 rfl (fun hc3 => ?_) (fun hc3 => ?_)
        · rw [if_neg hc3] at h
          refine zv_iincw hB zd146_82 rfl rfl ?_
          refine zv_goto hB zd146_85 rfl ?_
          exact ih _ _ _ _ _ q h hK
        · rw [if_pos hc3] at h
          refine zv_ald hB zd146_20 rfl rfl rfl ?_
          refine zv_ald hB zd146_21 rfl rfl rfl ?_
          refine zv_getr hB zd146_22 rfl ?_
          refine zv_ild hB zd146_25 rfl rfl ?_
          refine zv_iald hB zd146_26 rfl rfl (zi_ix_ok c2).1 (zi_ix_ok c2).2 (fun _ _ => ?_)
          refine zv_ald hB zd146_27 rfl rfl rfl ?_
          refine zv_getr hB zd146_28 rfl ?_
          refine zv_ild hB zd146_31 rfl rfl ?_
          refine zv_iald hB zd146_32 rfl rfl (zi_ix_ok c2).1 (zi_ix_ok c2).2 (fun _ _ => ?_)
          obtain ⟨r4, hr4, h⟩ := zi_bind h
          refine zv_cv hB (zv_emq (va2 := [.inr 0, .inl (g1 x3), .inl (g2 x3)]) (F := [.inl f0, .inl f1]) (F' := [.inl f0, .inl r4.2.1]) (G := [g0, g1, g2, g3, g4, g5, g6, g7]) (G' := [g0, g1, g2, g3, r4.2.2, g5, g6, g7]) (ρ := [0, 4, 5, 6, 7]) (φ := [1]) (ψ := [3, 4, 5, 6]) [none, some 0] [none, none, none, some 0, some 1, some 2, some 3, none] zyw_Law_run zyw_Law_amount zye_Law_amount (by decide +kernel) (zt_Law_run hr4) ⟨⟨_, rfl, fun _ => rfl⟩, trivial⟩ ⟨rfl, rfl, rfl, rfl, trivial⟩ rfl rfl rfl rfl rfl rfl rfl) zd146_33 zxt94 rfl (by decide) (by decide) rfl ?_
          refine zv_zeq hB zd146_36 rfl (fun hc5 => ?_) (fun hc5 => ?_)
          · rw [if_pos hc5] at h
            refine zv_iincw hB zd146_82 rfl rfl ?_
            refine zv_goto hB zd146_85 rfl ?_
            exact ih _ _ _ _ _ q h hK
          · rw [if_neg hc5] at h
            refine zv_ald hB zd146_39 rfl rfl rfl ?_
            refine zv_getf hB zd146_40 rfl rfl (fun _ _ => ?_)
            refine zv_zeq hB zd146_43 rfl (fun hc6 => ?_) (fun hc6 => ?_)
            · rw [if_pos hc6] at h
              refine zv_iincw hB zd146_82 rfl rfl ?_
              refine zv_goto hB zd146_85 rfl ?_
              exact ih _ _ _ _ _ q h hK
            · rw [if_neg hc6] at h
              refine zv_ald hB zd146_46 rfl rfl rfl ?_
              refine zv_ald hB zd146_47 rfl rfl rfl ?_
              refine zv_getr hB zd146_48 rfl ?_
              refine zv_ild hB zd146_51 rfl rfl ?_
              refine zv_iald hB zd146_52 rfl rfl (zi_ix_ok c2).1 (zi_ix_ok c2).2 (fun _ _ => ?_)
              refine zv_ald hB zd146_53 rfl rfl rfl ?_
              refine zv_getr hB zd146_54 rfl ?_
              refine zv_ild hB zd146_57 rfl rfl ?_
              refine zv_iald hB zd146_58 rfl rfl (zi_ix_ok c2).1 (zi_ix_ok c2).2 (fun _ _ => ?_)
              obtain ⟨r7, hr7, h⟩ := zi_bind h
              refine zv_cv hB (zv_emq (va2 := [.inr 0, .inl (g7 x3), .inl (g1 x3)]) (F := [.inl f0, .inl r4.2.1]) (F' := [.inl f0, .inl r7.2.1]) (G := [g0, g1, g2, g3, r4.2.2, g5, g6, g7]) (G' := [g0, g1, g2, g3, r7.2.2, g5, g6, g7]) (ρ := [0, 4, 5, 6, 7]) (φ := [1]) (ψ := [3, 4, 5, 6]) [none, some 0] [none, none, none, some 0, some 1, some 2, some 3, none] zyw_Law_run zyw_Law_amount zye_Law_amount (by decide +kernel) (zt_Law_run hr7) ⟨⟨_, rfl, fun _ => rfl⟩, trivial⟩ ⟨rfl, rfl, rfl, rfl, trivial⟩ rfl rfl rfl rfl rfl rfl rfl) zd146_59 zxt94 rfl (by decide) (by decide) rfl ?_
              refine zv_zeq hB zd146_62 rfl (fun hc8 => ?_) (fun hc8 => ?_)
              · rw [if_pos hc8] at h
                refine zv_con hB zd146_80 rfl ?_
                have hw : (0, r7.2.1, r7.2.2) = o := zi_rk (Option.some.inj h) hK
                subst hw
                exact hret _ _ _ _ _ zd146_81 (by trivial) ⟨rfl, rfl, rfl⟩
              · rw [if_neg hc8] at h
                refine zv_con hB zd146_65 rfl ?_
                refine zv_ild hB zd146_66 rfl rfl ?_
                refine zv_ald hB zd146_67 rfl rfl rfl ?_
                refine zv_getf hB zd146_68 rfl rfl (fun _ _ => ?_)
                obtain ⟨r9, hr9, h⟩ := zi_bind h
                refine zv_cs hB (zv_emq (va2 := [.inl x2, .inl r7.2.1]) (F := [.inl f0, .inl r7.2.1]) (F' := [.inl f0, .inl r7.2.1]) (G := [g0, g1, g2, g3, r7.2.2, g5, g6, g7]) (G' := [g0, g1, g2, g3, r7.2.2, g5, g6, g7]) (ρ := []) (φ := []) (ψ := []) [none, none] [none, none, none, none, none, none, none, none] zyw_Math_min zyw_Law_amount zye_Law_amount (by decide +kernel) (zt_Math_min hr9) trivial trivial rfl rfl rfl rfl rfl rfl rfl) zd146_71 zxt37 rfl (by decide) (by decide) rfl ?_
                obtain ⟨r10, hr10, h⟩ := zi_bind h
                refine zv_cs hB (zv_emq (va2 := [.inl 0, .inl r9]) (F := [.inl f0, .inl r7.2.1]) (F' := [.inl f0, .inl r7.2.1]) (G := [g0, g1, g2, g3, r7.2.2, g5, g6, g7]) (G' := [g0, g1, g2, g3, r7.2.2, g5, g6, g7]) (ρ := []) (φ := []) (ψ := []) [none, none] [none, none, none, none, none, none, none, none] zyw_Math_max zyw_Law_amount zye_Law_amount (by decide +kernel) (zt_Math_max hr10) trivial trivial rfl rfl rfl rfl rfl rfl rfl) zd146_74 zxt55 rfl (by decide) (by decide) rfl ?_
                refine zv_goto hB zd146_77 rfl ?_
                have hw : (r10, r7.2.1, r7.2.2) = o := zi_rk (Option.some.inj h) hK
                subst hw
                exact hret _ _ _ _ _ zd146_81 (by trivial) ⟨rfl, rfl, rfl⟩
  unfold zf_Law_amount at h
  refine zv_con hB zd146_0 rfl ?_
  refine zv_ist hB zd146_1 rfl rfl rfl ?_
  obtain ⟨q11, hq11, h⟩ := zi_bind h
  refine l0 _ _ _ _ _ _ q11 hq11 ?_
  rcases q11 with e12 | w13
  · replace h := zi_sl h
    show good 88 [.inr 1000, .inr 1000, .inr 1000, .inr 1000] [] [.inl f0, .inl e12.1] [g0, g1, g2, g3, e12.2, g5, g6, g7]
    refine zv_con hB zd146_88 rfl ?_
    have hw := Option.some.inj h
    subst hw
    exact hret _ _ _ _ _ zd146_89 (by trivial) ⟨rfl, rfl, rfl⟩
  · exact Option.some.inj h
