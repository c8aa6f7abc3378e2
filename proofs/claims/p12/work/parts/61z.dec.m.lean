/-! 61z.dec, 62a.dec -/
section
/-! Methods as functions, and that they do what these do. -/
/-! M_law (I)I -/
-- names: 0 StarTalesModel('arg', 0), 1 (1, 220)(0, 12, 3), 2 (0, 14)(0, 12, 16), 3 (0, 14)(0, 12, 17), 4 (0, 14)(0, 12, 18), 5 (0, 220)(0, 12, 15), 6 (0, 220)(0, 12, 14), 7 (0, 14)(0, 12, 19), 8 (0, 220)(0, 12, 20), 9 (0, 14)(0, 12, 21), 10 (0, 14)(0, 12, 22), 11 (0, 14)(0, 12, 23), 12 (0, 14)(0, 12, 24)
-- fields: f0 = 0.taped_, f1 = 0.place0_, f2 = 0.length0_, f3 = 0.codeMany_, f4 = 0.saidMany_, f5 = 0.open_, f6 = 0.waiting_, f7 = 0.fault_, f8 = 0.number0_, f9 = 0.clauses_; arrays: g0 = 1, g1 = 2, g2 = 3, g3 = 4, g4 = 5, g5 = 6, g6 = 7, g7 = 8, g8 = 9, g9 = 10, g10 = 11, g11 = 12; out: [('ret', None), ('f', 0), ('f', 1), ('f', 2), ('f', 3), ('f', 4), ('f', 5), ('f', 6), ('f', 7), ('f', 8), ('f', 9), ('g', 1), ('g', 2), ('g', 3), ('g', 4), ('g', 5), ('g', 6), ('g', 7), ('g', 8), ('g', 9), ('g', 10), ('g', 11)]
abbrev zy_M_law : zNL := (13, [(0, 12)], [(0, 12, 4, 0), (0, 12, 5, 1), (0, 12, 6, 2), (0, 12, 9, 3), (0, 12, 11, 4), (0, 12, 8, 5), (0, 12, 10, 6), (0, 12, 7, 7), (0, 12, 12, 8), (0, 12, 13, 9)], [(0, 12, 3, 1), (0, 12, 16, 2), (0, 12, 17, 3), (0, 12, 18, 4), (0, 12, 15, 5), (0, 12, 14, 6), (0, 12, 19, 7), (0, 12, 20, 8), (0, 12, 21, 9), (0, 12, 22, 10), (0, 12, 23, 11), (0, 12, 24, 12)], [(1, 1, 220, 0), (2, 0, 14, 1), (3, 0, 14, 2), (4, 0, 14, 3), (5, 0, 220, 4), (6, 0, 220, 5), (7, 0, 14, 6), (8, 0, 220, 7), (9, 0, 14, 8), (10, 0, 14, 9), (11, 0, 14, 10), (12, 0, 14, 11)])
theorem zyw_M_law : zv_wf zy_M_law = true := by decide +kernel
theorem zye_M_law : zv_ek2 zy_M_law = true := by decide +kernel
def zf_M_law_l0_b (f2 : Int) (g0 : (Int → Int)) (rec : Int → Int → Int → Int → Int → Int → Int → Int → (Int → Int) → (Int → Int) → (Int → Int) → (Int → Int) → (Int → Int) → (Int → Int) → Option (Int × Int × Int × Int × Int × Int × Int × Int × (Int → Int) × (Int → Int) × (Int → Int) × (Int → Int) × (Int → Int) × (Int → Int))) (x2 : Int) (f1 : Int) (f3 : Int) (f4 : Int) (f5 : Int) (f6 : Int) (f7 : Int) (f8 : Int) (g1 : (Int → Int)) (g2 : (Int → Int)) (g3 : (Int → Int)) (g4 : (Int → Int)) (g5 : (Int → Int)) (g6 : (Int → Int)) : Option (Int × Int × Int × Int × Int × Int × Int × Int × (Int → Int) × (Int → Int) × (Int → Int) × (Int → Int) × (Int → Int) × (Int → Int)) := if x2 = 0 then (some (x2, f1, f3, f4, f5, f6, f7, f8, g1, g2, g3, g4, g5, g6)) else (if f1 < f2 then ((zf_M_takes 59 f1 f2 f7 g0).bind fun r7 => (if r7.1 = 0 then (rec 0 r7.2.1 f3 f4 f5 f6 r7.2.2 f8 g1 g2 g3 g4 g5 g6) else ((zf_M_readsClause r7.2.1 f2 f4 f3 f5 f6 r7.2.2 f8 g0 g1 g2 g3 g4 g5 g6).bind fun r9 => (if r9.1 = 0 then (rec 0 r9.2.1 r9.2.2.2.1 r9.2.2.1 r9.2.2.2.2.1 r9.2.2.2.2.2.1 r9.2.2.2.2.2.2.1 r9.2.2.2.2.2.2.2.1 r9.2.2.2.2.2.2.2.2.1 r9.2.2.2.2.2.2.2.2.2.1 r9.2.2.2.2.2.2.2.2.2.2.1 r9.2.2.2.2.2.2.2.2.2.2.2.1 r9.2.2.2.2.2.2.2.2.2.2.2.2.1 r9.2.2.2.2.2.2.2.2.2.2.2.2.2) else (rec 1 r9.2.1 r9.2.2.2.1 r9.2.2.1 r9.2.2.2.2.1 r9.2.2.2.2.2.1 r9.2.2.2.2.2.2.1 r9.2.2.2.2.2.2.2.1 r9.2.2.2.2.2.2.2.2.1 r9.2.2.2.2.2.2.2.2.2.1 r9.2.2.2.2.2.2.2.2.2.2.1 r9.2.2.2.2.2.2.2.2.2.2.2.1 r9.2.2.2.2.2.2.2.2.2.2.2.2.1 r9.2.2.2.2.2.2.2.2.2.2.2.2.2))))) else (some (x2, f1, f3, f4, f5, f6, f7, f8, g1, g2, g3, g4, g5, g6)))
def zf_M_law_l0 (f2 : Int) (g0 : (Int → Int)) : Nat → Int → Int → Int → Int → Int → Int → Int → Int → (Int → Int) → (Int → Int) → (Int → Int) → (Int → Int) → (Int → Int) → (Int → Int) → Option (Int × Int × Int × Int × Int × Int × Int × Int × (Int → Int) × (Int → Int) × (Int → Int) × (Int → Int) × (Int → Int) × (Int → Int))
  | 0, _, _, _, _, _, _, _, _, _, _, _, _, _, _ => none
  | n + 1, x2, f1, f3, f4, f5, f6, f7, f8, g1, g2, g3, g4, g5, g6 => zf_M_law_l0_b f2 g0 (zf_M_law_l0 f2 g0 n) x2 f1 f3 f4 f5 f6 f7 f8 g1 g2 g3 g4 g5 g6
def zf_M_law_l1_b (f3 : Int) (g5 : (Int → Int)) (rec : Int → (Int → Int) → Option ((Int → Int))) (x3 : Int) (g7 : (Int → Int)) : Option ((Int → Int)) := if x3 < f3 then (cond (zi_ix x3 220) (rec (zi_w (x3 + 1)) (zv_up g7 x3 (g5 x3))) none) else (some g7)
def zf_M_law_l1 (f3 : Int) (g5 : (Int → Int)) : Nat → Int → (Int → Int) → Option ((Int → Int))
  | 0, _, _ => none
  | n + 1, x3, g7 => zf_M_law_l1_b f3 g5 (zf_M_law_l1 f3 g5 n) x3 g7
def zf_M_law_l2_b (f4 : Int) (g1 : (Int → Int)) (g2 : (Int → Int)) (g3 : (Int → Int)) (g6 : (Int → Int)) (rec : Int → (Int → Int) → (Int → Int) → (Int → Int) → (Int → Int) → Option ((Int → Int) × (Int → Int) × (Int → Int) × (Int → Int))) (x3 : Int) (g8 : (Int → Int)) (g9 : (Int → Int)) (g10 : (Int → Int)) (g11 : (Int → Int)) : Option ((Int → Int) × (Int → Int) × (Int → Int) × (Int → Int)) := if x3 < f4 then (cond (zi_ix x3 14) (rec (zi_w (x3 + 1)) (zv_up g8 x3 (g1 x3)) (zv_up g9 x3 (g2 x3)) (zv_up g10 x3 (g3 x3)) (zv_up g11 x3 (g6 x3))) none) else (some (g8, g9, g10, g11))
def zf_M_law_l2 (f4 : Int) (g1 : (Int → Int)) (g2 : (Int → Int)) (g3 : (Int → Int)) (g6 : (Int → Int)) : Nat → Int → (Int → Int) → (Int → Int) → (Int → Int) → (Int → Int) → Option ((Int → Int) × (Int → Int) × (Int → Int) × (Int → Int))
  | 0, _, _, _, _, _ => none
  | n + 1, x3, g8, g9, g10, g11 => zf_M_law_l2_b f4 g1 g2 g3 g6 (zf_M_law_l2 f4 g1 g2 g3 g6 n) x3 g8 g9 g10 g11
def zf_M_law (x1 : Int) (f0 : Int) (f1 : Int) (f2 : Int) (f3 : Int) (f4 : Int) (f5 : Int) (f6 : Int) (f7 : Int) (f8 : Int) (f9 : Int) (g0 : (Int → Int)) (g1 : (Int → Int)) (g2 : (Int → Int)) (g3 : (Int → Int)) (g4 : (Int → Int)) (g5 : (Int → Int)) (g6 : (Int → Int)) (g7 : (Int → Int)) (g8 : (Int → Int)) (g9 : (Int → Int)) (g10 : (Int → Int)) (g11 : (Int → Int)) : Option (Int × Int × Int × Int × Int × Int × Int × Int × Int × Int × Int × (Int → Int) × (Int → Int) × (Int → Int) × (Int → Int) × (Int → Int) × (Int → Int) × (Int → Int) × (Int → Int) × (Int → Int) × (Int → Int) × (Int → Int)) := (zf_M_in x1 1 200).bind fun r1 => (if r1 = 0 then (some ((-1), f0, f1, f2, f3, f4, f5, f6, f7, f8, f9, g1, g2, g3, g4, g5, g6, g7, g8, g9, g10, g11)) else (if f0 < x1 then (some ((-1), f0, f1, f2, f3, f4, f5, f6, f7, f8, f9, g1, g2, g3, g4, g5, g6, g7, g8, g9, g10, g11)) else ((zf_M_readsClause 0 x1 0 0 f5 f6 f7 f8 g0 g1 g2 g3 g4 g5 g6).bind fun r4 => ((zf_M_law_l0 x1 g0 zi_fu r4.1 r4.2.1 r4.2.2.2.1 r4.2.2.1 r4.2.2.2.2.1 r4.2.2.2.2.2.1 r4.2.2.2.2.2.2.1 r4.2.2.2.2.2.2.2.1 r4.2.2.2.2.2.2.2.2.1 r4.2.2.2.2.2.2.2.2.2.1 r4.2.2.2.2.2.2.2.2.2.2.1 r4.2.2.2.2.2.2.2.2.2.2.2.1 r4.2.2.2.2.2.2.2.2.2.2.2.2.1 r4.2.2.2.2.2.2.2.2.2.2.2.2.2).bind fun q11 => (if q11.1 = 0 then (some (q11.2.2.2.2.2.2.1, 0, q11.2.1, x1, q11.2.2.1, q11.2.2.2.1, q11.2.2.2.2.1, q11.2.2.2.2.2.1, q11.2.2.2.2.2.2.1, q11.2.2.2.2.2.2.2.1, f9, q11.2.2.2.2.2.2.2.2.1, q11.2.2.2.2.2.2.2.2.2.1, q11.2.2.2.2.2.2.2.2.2.2.1, q11.2.2.2.2.2.2.2.2.2.2.2.1, q11.2.2.2.2.2.2.2.2.2.2.2.2.1, q11.2.2.2.2.2.2.2.2.2.2.2.2.2, g7, g8, g9, g10, g11)) else ((zf_M_law_l1 q11.2.2.1 q11.2.2.2.2.2.2.2.2.2.2.2.2.1 zi_fu 0 g7).bind fun q15 => ((zf_M_law_l2 q11.2.2.2.1 q11.2.2.2.2.2.2.2.2.1 q11.2.2.2.2.2.2.2.2.2.1 q11.2.2.2.2.2.2.2.2.2.2.1 q11.2.2.2.2.2.2.2.2.2.2.2.2.2 zi_fu 0 g8 g9 g10 g11).bind fun q18 => (some (q11.2.2.2.1, 0, q11.2.1, x1, q11.2.2.1, q11.2.2.2.1, q11.2.2.2.2.1, q11.2.2.2.2.2.1, q11.2.2.2.2.2.2.1, q11.2.2.2.2.2.2.2.1, q11.2.2.2.1, q11.2.2.2.2.2.2.2.2.1, q11.2.2.2.2.2.2.2.2.2.1, q11.2.2.2.2.2.2.2.2.2.2.1, q11.2.2.2.2.2.2.2.2.2.2.2.1, q11.2.2.2.2.2.2.2.2.2.2.2.2.1, q11.2.2.2.2.2.2.2.2.2.2.2.2.2, q15, q18.1, q18.2.1, q18.2.2.1, q18.2.2.2)))))))))
theorem zd215_0 : decode zxm215.2.1 0 = .ok (.iload_n 1, 1) := by decide +kernel
theorem zd215_1 : decode zxm215.2.1 1 = .ok (.iconst 1, 1) := by decide +kernel
theorem zd215_2 : decode zxm215.2.1 2 = .ok (.sipush 200, 3) := by decide +kernel
theorem zd215_5 : decode zxm215.2.1 5 = .ok (.invokestatic 150, 3) := by decide +kernel
theorem zd215_8 : decode zxm215.2.1 8 = .ok (.ifCond .eq 11, 3) := by decide +kernel
theorem zd215_11 : decode zxm215.2.1 11 = .ok (.iload_n 1, 1) := by decide +kernel
theorem zd215_12 : decode zxm215.2.1 12 = .ok (.aload_n 0, 1) := by decide +kernel
theorem zd215_13 : decode zxm215.2.1 13 = .ok (.getfield 168, 3) := by decide +kernel
theorem zd215_16 : decode zxm215.2.1 16 = .ok (.if_icmp .le 5, 3) := by decide +kernel
theorem zd215_19 : decode zxm215.2.1 19 = .ok (.iconst (-1), 1) := by decide +kernel
theorem zd215_20 : decode zxm215.2.1 20 = .ok (.ireturn, 1) := by decide +kernel
theorem zd215_21 : decode zxm215.2.1 21 = .ok (.aload_n 0, 1) := by decide +kernel
theorem zd215_22 : decode zxm215.2.1 22 = .ok (.iconst 0, 1) := by decide +kernel
theorem zd215_23 : decode zxm215.2.1 23 = .ok (.putfield 176, 3) := by decide +kernel
theorem zd215_26 : decode zxm215.2.1 26 = .ok (.aload_n 0, 1) := by decide +kernel
theorem zd215_27 : decode zxm215.2.1 27 = .ok (.iload_n 1, 1) := by decide +kernel
theorem zd215_28 : decode zxm215.2.1 28 = .ok (.putfield 179, 3) := by decide +kernel
theorem zd215_31 : decode zxm215.2.1 31 = .ok (.aload_n 0, 1) := by decide +kernel
theorem zd215_32 : decode zxm215.2.1 32 = .ok (.iconst 0, 1) := by decide +kernel
theorem zd215_33 : decode zxm215.2.1 33 = .ok (.putfield 199, 3) := by decide +kernel
theorem zd215_36 : decode zxm215.2.1 36 = .ok (.aload_n 0, 1) := by decide +kernel
theorem zd215_37 : decode zxm215.2.1 37 = .ok (.iconst 0, 1) := by decide +kernel
theorem zd215_38 : decode zxm215.2.1 38 = .ok (.putfield 256, 3) := by decide +kernel
theorem zd215_41 : decode zxm215.2.1 41 = .ok (.aload_n 0, 1) := by decide +kernel
theorem zd215_42 : decode zxm215.2.1 42 = .ok (.invokevirtual 262, 3) := by decide +kernel
theorem zd215_45 : decode zxm215.2.1 45 = .ok (.istore_n 2, 1) := by decide +kernel
theorem zd215_46 : decode zxm215.2.1 46 = .ok (.iload_n 2, 1) := by decide +kernel
theorem zd215_47 : decode zxm215.2.1 47 = .ok (.ifCond .eq 39, 3) := by decide +kernel
theorem zd215_50 : decode zxm215.2.1 50 = .ok (.aload_n 0, 1) := by decide +kernel
theorem zd215_51 : decode zxm215.2.1 51 = .ok (.getfield 176, 3) := by decide +kernel
theorem zd215_54 : decode zxm215.2.1 54 = .ok (.aload_n 0, 1) := by decide +kernel
theorem zd215_55 : decode zxm215.2.1 55 = .ok (.getfield 179, 3) := by decide +kernel
theorem zd215_58 : decode zxm215.2.1 58 = .ok (.if_icmp .ge 28, 3) := by decide +kernel
theorem zd215_61 : decode zxm215.2.1 61 = .ok (.aload_n 0, 1) := by decide +kernel
theorem zd215_62 : decode zxm215.2.1 62 = .ok (.bipush 59, 2) := by decide +kernel
theorem zd215_64 : decode zxm215.2.1 64 = .ok (.invokevirtual 265, 3) := by decide +kernel
theorem zd215_67 : decode zxm215.2.1 67 = .ok (.ifCond .eq 14, 3) := by decide +kernel
theorem zd215_70 : decode zxm215.2.1 70 = .ok (.aload_n 0, 1) := by decide +kernel
theorem zd215_71 : decode zxm215.2.1 71 = .ok (.invokevirtual 262, 3) := by decide +kernel
theorem zd215_74 : decode zxm215.2.1 74 = .ok (.ifCond .eq 7, 3) := by decide +kernel
theorem zd215_77 : decode zxm215.2.1 77 = .ok (.iconst 1, 1) := by decide +kernel
theorem zd215_78 : decode zxm215.2.1 78 = .ok (.goto 4, 3) := by decide +kernel
theorem zd215_81 : decode zxm215.2.1 81 = .ok (.iconst 0, 1) := by decide +kernel
theorem zd215_82 : decode zxm215.2.1 82 = .ok (.istore_n 2, 1) := by decide +kernel
theorem zd215_83 : decode zxm215.2.1 83 = .ok (.goto (-37), 3) := by decide +kernel
theorem zd215_86 : decode zxm215.2.1 86 = .ok (.aload_n 0, 1) := by decide +kernel
theorem zd215_87 : decode zxm215.2.1 87 = .ok (.iconst 0, 1) := by decide +kernel
theorem zd215_88 : decode zxm215.2.1 88 = .ok (.putfield 168, 3) := by decide +kernel
theorem zd215_91 : decode zxm215.2.1 91 = .ok (.iload_n 2, 1) := by decide +kernel
theorem zd215_92 : decode zxm215.2.1 92 = .ok (.ifCond .ne 8, 3) := by decide +kernel
theorem zd215_95 : decode zxm215.2.1 95 = .ok (.aload_n 0, 1) := by decide +kernel
theorem zd215_96 : decode zxm215.2.1 96 = .ok (.getfield 186, 3) := by decide +kernel
theorem zd215_99 : decode zxm215.2.1 99 = .ok (.ireturn, 1) := by decide +kernel
theorem zd215_100 : decode zxm215.2.1 100 = .ok (.aload_n 0, 1) := by decide +kernel
theorem zd215_101 : decode zxm215.2.1 101 = .ok (.aload_n 0, 1) := by decide +kernel
theorem zd215_102 : decode zxm215.2.1 102 = .ok (.getfield 256, 3) := by decide +kernel
theorem zd215_105 : decode zxm215.2.1 105 = .ok (.putfield 268, 3) := by decide +kernel
theorem zd215_108 : decode zxm215.2.1 108 = .ok (.iconst 0, 1) := by decide +kernel
theorem zd215_109 : decode zxm215.2.1 109 = .ok (.istore_n 3, 1) := by decide +kernel
theorem zd215_110 : decode zxm215.2.1 110 = .ok (.iload_n 3, 1) := by decide +kernel
theorem zd215_111 : decode zxm215.2.1 111 = .ok (.aload_n 0, 1) := by decide +kernel
theorem zd215_112 : decode zxm215.2.1 112 = .ok (.getfield 199, 3) := by decide +kernel
theorem zd215_115 : decode zxm215.2.1 115 = .ok (.if_icmp .ge 21, 3) := by decide +kernel
theorem zd215_118 : decode zxm215.2.1 118 = .ok (.aload_n 0, 1) := by decide +kernel
theorem zd215_119 : decode zxm215.2.1 119 = .ok (.getfield 41, 3) := by decide +kernel
theorem zd215_122 : decode zxm215.2.1 122 = .ok (.iload_n 3, 1) := by decide +kernel
theorem zd215_123 : decode zxm215.2.1 123 = .ok (.aload_n 0, 1) := by decide +kernel
theorem zd215_124 : decode zxm215.2.1 124 = .ok (.getfield 23, 3) := by decide +kernel
theorem zd215_127 : decode zxm215.2.1 127 = .ok (.iload_n 3, 1) := by decide +kernel
theorem zd215_128 : decode zxm215.2.1 128 = .ok (.iaload, 1) := by decide +kernel
theorem zd215_129 : decode zxm215.2.1 129 = .ok (.iastore, 1) := by decide +kernel
theorem zd215_130 : decode zxm215.2.1 130 = .ok (.iinc 3 1, 3) := by decide +kernel
theorem zd215_133 : decode zxm215.2.1 133 = .ok (.goto (-23), 3) := by decide +kernel
theorem zd215_136 : decode zxm215.2.1 136 = .ok (.iconst 0, 1) := by decide +kernel
theorem zd215_137 : decode zxm215.2.1 137 = .ok (.istore_n 3, 1) := by decide +kernel
theorem zd215_138 : decode zxm215.2.1 138 = .ok (.iload_n 3, 1) := by decide +kernel
theorem zd215_139 : decode zxm215.2.1 139 = .ok (.aload_n 0, 1) := by decide +kernel
theorem zd215_140 : decode zxm215.2.1 140 = .ok (.getfield 256, 3) := by decide +kernel
theorem zd215_143 : decode zxm215.2.1 143 = .ok (.if_icmp .ge 57, 3) := by decide +kernel
theorem zd215_146 : decode zxm215.2.1 146 = .ok (.aload_n 0, 1) := by decide +kernel
theorem zd215_147 : decode zxm215.2.1 147 = .ok (.getfield 44, 3) := by decide +kernel
theorem zd215_150 : decode zxm215.2.1 150 = .ok (.iload_n 3, 1) := by decide +kernel
theorem zd215_151 : decode zxm215.2.1 151 = .ok (.aload_n 0, 1) := by decide +kernel
theorem zd215_152 : decode zxm215.2.1 152 = .ok (.getfield 29, 3) := by decide +kernel
theorem zd215_155 : decode zxm215.2.1 155 = .ok (.iload_n 3, 1) := by decide +kernel
theorem zd215_156 : decode zxm215.2.1 156 = .ok (.iaload, 1) := by decide +kernel
theorem zd215_157 : decode zxm215.2.1 157 = .ok (.iastore, 1) := by decide +kernel
theorem zd215_158 : decode zxm215.2.1 158 = .ok (.aload_n 0, 1) := by decide +kernel
theorem zd215_159 : decode zxm215.2.1 159 = .ok (.getfield 47, 3) := by decide +kernel
theorem zd215_162 : decode zxm215.2.1 162 = .ok (.iload_n 3, 1) := by decide +kernel
theorem zd215_163 : decode zxm215.2.1 163 = .ok (.aload_n 0, 1) := by decide +kernel
theorem zd215_164 : decode zxm215.2.1 164 = .ok (.getfield 32, 3) := by decide +kernel
theorem zd215_167 : decode zxm215.2.1 167 = .ok (.iload_n 3, 1) := by decide +kernel
theorem zd215_168 : decode zxm215.2.1 168 = .ok (.iaload, 1) := by decide +kernel
theorem zd215_169 : decode zxm215.2.1 169 = .ok (.iastore, 1) := by decide +kernel
theorem zd215_170 : decode zxm215.2.1 170 = .ok (.aload_n 0, 1) := by decide +kernel
theorem zd215_171 : decode zxm215.2.1 171 = .ok (.getfield 50, 3) := by decide +kernel
theorem zd215_174 : decode zxm215.2.1 174 = .ok (.iload_n 3, 1) := by decide +kernel
theorem zd215_175 : decode zxm215.2.1 175 = .ok (.aload_n 0, 1) := by decide +kernel
theorem zd215_176 : decode zxm215.2.1 176 = .ok (.getfield 35, 3) := by decide +kernel
theorem zd215_179 : decode zxm215.2.1 179 = .ok (.iload_n 3, 1) := by decide +kernel
theorem zd215_180 : decode zxm215.2.1 180 = .ok (.iaload, 1) := by decide +kernel
theorem zd215_181 : decode zxm215.2.1 181 = .ok (.iastore, 1) := by decide +kernel
theorem zd215_182 : decode zxm215.2.1 182 = .ok (.aload_n 0, 1) := by decide +kernel
theorem zd215_183 : decode zxm215.2.1 183 = .ok (.getfield 53, 3) := by decide +kernel
theorem zd215_186 : decode zxm215.2.1 186 = .ok (.iload_n 3, 1) := by decide +kernel
theorem zd215_187 : decode zxm215.2.1 187 = .ok (.aload_n 0, 1) := by decide +kernel
theorem zd215_188 : decode zxm215.2.1 188 = .ok (.getfield 38, 3) := by decide +kernel
theorem zd215_191 : decode zxm215.2.1 191 = .ok (.iload_n 3, 1) := by decide +kernel
theorem zd215_192 : decode zxm215.2.1 192 = .ok (.iaload, 1) := by decide +kernel
theorem zd215_193 : decode zxm215.2.1 193 = .ok (.iastore, 1) := by decide +kernel
theorem zd215_194 : decode zxm215.2.1 194 = .ok (.iinc 3 1, 3) := by decide +kernel
theorem zd215_197 : decode zxm215.2.1 197 = .ok (.goto (-59), 3) := by decide +kernel
theorem zd215_200 : decode zxm215.2.1 200 = .ok (.aload_n 0, 1) := by decide +kernel
theorem zd215_201 : decode zxm215.2.1 201 = .ok (.getfield 256, 3) := by decide +kernel
theorem zd215_204 : decode zxm215.2.1 204 = .ok (.ireturn, 1) := by decide +kernel
theorem zt_M_law {x1 : Int} {f0 : Int} {f1 : Int} {f2 : Int} {f3 : Int} {f4 : Int} {f5 : Int} {f6 : Int} {f7 : Int} {f8 : Int} {f9 : Int} {g0 : (Int → Int)} {g1 : (Int → Int)} {g2 : (Int → Int)} {g3 : (Int → Int)} {g4 : (Int → Int)} {g5 : (Int → Int)} {g6 : (Int → Int)} {g7 : (Int → Int)} {g8 : (Int → Int)} {g9 : (Int → Int)} {g10 : (Int → Int)} {g11 : (Int → Int)} {o : Int × Int × Int × Int × Int × Int × Int × Int × Int × Int × Int × (Int → Int) × (Int → Int) × (Int → Int) × (Int → Int) × (Int → Int) × (Int → Int) × (Int → Int) × (Int → Int) × (Int → Int) × (Int → Int) × (Int → Int)} (h : zf_M_law x1 f0 f1 f2 f3 f4 f5 f6 f7 f8 f9 g0 g1 g2 g3 g4 g5 g6 g7 g8 g9 g10 g11 = some o) : zv_Fn z_TB z_cl z_KX zy_M_law zxm215 (8, 480) [.inr 0, .inl x1] [.inl f0, .inl f1, .inl f2, .inl f3, .inl f4, .inl f5, .inl f6, .inl f7, .inl f8, .inl f9] [g0, g1, g2, g3, g4, g5, g6, g7, g8, g9, g10, g11] (some o.1) [.inl o.2.1, .inl o.2.2.1, .inl o.2.2.2.1, .inl o.2.2.2.2.1, .inl o.2.2.2.2.2.1, .inl o.2.2.2.2.2.2.1, .inl o.2.2.2.2.2.2.2.1, .inl o.2.2.2.2.2.2.2.2.1, .inl o.2.2.2.2.2.2.2.2.2.1, .inl o.2.2.2.2.2.2.2.2.2.2.1] [g0, o.2.2.2.2.2.2.2.2.2.2.2.1, o.2.2.2.2.2.2.2.2.2.2.2.2.1, o.2.2.2.2.2.2.2.2.2.2.2.2.2.1, o.2.2.2.2.2.2.2.2.2.2.2.2.2.2.1, o.2.2.2.2.2.2.2.2.2.2.2.2.2.2.2.1, o.2.2.2.2.2.2.2.2.2.2.2.2.2.2.2.2.1, o.2.2.2.2.2.2.2.2.2.2.2.2.2.2.2.2.2.1, o.2.2.2.2.2.2.2.2.2.2.2.2.2.2.2.2.2.2.1, o.2.2.2.2.2.2.2.2.2.2.2.2.2.2.2.2.2.2.2.1, o.2.2.2.2.2.2.2.2.2.2.2.2.2.2.2.2.2.2.2.2.1, o.2.2.2.2.2.2.2.2.2.2.2.2.2.2.2.2.2.2.2.2.2] := zv_meth (K := (z_KF13, z_KC13, z_KL13, z_KT13, [], [], [], none)) (FT := z_FT) (MT := z_MT) (n := 2) zxp215 (z_ks13 _ (fun _ h => List.mem_cons_of_mem _ h) _ _ _ _ (fun j r h _ => by cases h)) (fun _ _ => zs_KX_p) zyw_M_law (fun va F G h => by obtain ⟨rfl, _⟩ := h; rfl) (fun va F G h => by obtain ⟨rfl, _⟩ := h; rfl) rfl fun good va F G hB hret hvret hP => by
  obtain ⟨rfl, rfl, rfl⟩ := hP
  have l0 : ∀ (n : Nat) (x2 : Int) (f0 : Int) (f1 : Int) (f2 : Int) (f3 : Int) (f4 : Int) (f5 : Int) (f6 : Int) (f7 : Int) (f8 : Int) (f9 : Int) (g1 : (Int → Int)) (g2 : (Int → Int)) (g3 : (Int → Int)) (g4 : (Int → Int)) (g5 : (Int → Int)) (g6 : (Int → Int)) (g7 : (Int → Int)) (g8 : (Int → Int)) (g9 : (Int → Int)) (g10 : (Int → Int)) (g11 : (Int → Int)) (q : Int × Int × Int × Int × Int × Int × Int × Int × (Int → Int) × (Int → Int) × (Int → Int) × (Int → Int) × (Int → Int) × (Int → Int)), zf_M_law_l0 f2 g0 n x2 f1 f3 f4 f5 f6 f7 f8 g1 g2 g3 g4 g5 g6 = some q → (good 86 [.inr 0, .inr 1000, .inl q.1, .inr 1000] [] [.inl f0, .inl q.2.1, .inl f2, .inl q.2.2.1, .inl q.2.2.2.1, .inl q.2.2.2.2.1, .inl q.2.2.2.2.2.1, .inl q.2.2.2.2.2.2.1, .inl q.2.2.2.2.2.2.2.1, .inl f9] [g0, q.2.2.2.2.2.2.2.2.1, q.2.2.2.2.2.2.2.2.2.1, q.2.2.2.2.2.2.2.2.2.2.1, q.2.2.2.2.2.2.2.2.2.2.2.1, q.2.2.2.2.2.2.2.2.2.2.2.2.1, q.2.2.2.2.2.2.2.2.2.2.2.2.2, g7, g8, g9, g10, g11]) → good 46 [.inr 0, .inr 1000, .inl x2, .inr 1000] [] [.inl f0, .inl f1, .inl f2, .inl f3, .inl f4, .inl f5, .inl f6, .inl f7, .inl f8, .inl f9] [g0, g1, g2, g3, g4, g5, g6, g7, g8, g9, g10, g11] := by
    intro n
    induction n with
    | zero => intro x2 f0 f1 f2 f3 f4 f5 f6 f7 f8 f9 g1 g2 g3 g4 g5 g6 g7 g8 g9 g10 g11 q h; exact absurd (show none = some q from h) (fun h => by cases h)
    | succ n ih =>
      intro x2 f0 f1 f2 f3 f4 f5 f6 f7 f8 f9 g1 g2 g3 g4 g5 g6 g7 g8 g9 g10 g11 q h hK
      replace h : zf_M_law_l0_b f2 g0 (zf_M_law_l0 f2 g0 n) x2 f1 f3 f4 f5 f6 f7 f8 g1 g2 g3 g4 g5 g6 = some q := h
      unfold zf_M_law_l0_b at h
      refine zv_ild hB zd215_46 rfl rfl ?_
      refine zv_zeq hB zd215_47 rfl (fun hc5 => ?_) (fun hc5 => ?_)
      · rw [if_pos hc5] at h
        have hq := Option.some.inj h
        subst hq
        exact hK
      · rw [if_neg hc5] at h
        refine zv_ald hB zd215_50 rfl rfl rfl ?_
        refine zv_getf hB zd215_51 rfl rfl (fun _ _ => ?_)
        refine zv_ald hB zd215_54 rfl rfl rfl ?_
        refine zv_getf hB zd215_55 rfl rfl (fun _ _ => ?_)
        refine zv_cge hB zd215_58 rfl (fun hc6 => ?_) (fun hc6 => ?_)
        · rw [if_neg (Int.not_lt.mpr hc6)] at h
          have hq := Option.some.inj h
          subst hq
          exact hK
        · rw [if_pos hc6] at h
          refine zv_ald hB zd215_61 rfl rfl rfl ?_
          refine zv_con hB zd215_62 rfl ?_
          obtain ⟨r7, hr7, h⟩ := zi_bind h
          refine zv_cv hB (zv_emq (va2 := [.inr 0, .inl 59]) (F := [.inl f0, .inl f1, .inl f2, .inl f3, .inl f4, .inl f5, .inl f6, .inl f7, .inl f8, .inl f9]) (F' := [.inl f0, .inl r7.2.1, .inl f2, .inl f3, .inl f4, .inl f5, .inl f6, .inl r7.2.2, .inl f8, .inl f9]) (G := [g0, g1, g2, g3, g4, g5, g6, g7, g8, g9, g10, g11]) (G' := [g0, g1, g2, g3, g4, g5, g6, g7, g8, g9, g10, g11]) (ρ := [0, 1]) (φ := [1, 2, 7]) (ψ := [0]) [none, some 0, some 1, none, none, none, none, some 2, none, none] [some 0, none, none, none, none, none, none, none, none, none, none, none] zyw_M_takes zyw_M_law zye_M_law (by decide +kernel) (zt_M_takes hr7) ⟨⟨_, rfl, fun _ => rfl⟩, ⟨_, rfl, fun _ => rfl⟩, ⟨_, rfl, fun _ => rfl⟩, trivial⟩ ⟨rfl, trivial⟩ rfl rfl rfl rfl rfl rfl rfl) zd215_64 zxt236 rfl (by decide) (by decide) rfl ?_
          refine zv_zeq hB zd215_67 rfl (fun hc8 => ?_) (fun hc8 => ?_)
          · rw [if_pos hc8] at h
            refine zv_con hB zd215_81 rfl ?_
            refine zv_ist hB zd215_82 rfl rfl rfl ?_
            refine zv_goto hB zd215_83 rfl ?_
            exact ih _ _ _ _ _ _ _ _ _ _ _ _ _ _ _ _ _ _ _ _ _ _ q h hK
          · rw [if_neg hc8] at h
            refine zv_ald hB zd215_70 rfl rfl rfl ?_
            obtain ⟨r9, hr9, h⟩ := zi_bind h
            refine zv_cv hB (zv_emq (va2 := [.inr 0]) (F := [.inl f0, .inl r7.2.1, .inl f2, .inl f3, .inl f4, .inl f5, .inl f6, .inl r7.2.2, .inl f8, .inl f9]) (F' := [.inl f0, .inl r9.2.1, .inl f2, .inl r9.2.2.2.1, .inl r9.2.2.1, .inl r9.2.2.2.2.1, .inl r9.2.2.2.2.2.1, .inl r9.2.2.2.2.2.2.1, .inl r9.2.2.2.2.2.2.2.1, .inl f9]) (G := [g0, g1, g2, g3, g4, g5, g6, g7, g8, g9, g10, g11]) (G' := [g0, r9.2.2.2.2.2.2.2.2.1, r9.2.2.2.2.2.2.2.2.2.1, r9.2.2.2.2.2.2.2.2.2.2.1, r9.2.2.2.2.2.2.2.2.2.2.2.1, r9.2.2.2.2.2.2.2.2.2.2.2.2.1, r9.2.2.2.2.2.2.2.2.2.2.2.2.2, g7, g8, g9, g10, g11]) (ρ := [0, 1, 2, 3, 4, 5, 6, 7]) (φ := [1, 2, 4, 3, 5, 6, 7, 8]) (ψ := [0, 1, 2, 3, 4, 5, 6]) [none, some 0, some 1, some 3, some 2, some 4, some 5, some 6, some 7, none] [some 0, some 1, some 2, some 3, some 4, some 5, some 6, none, none, none, none, none] zyw_M_readsClause zyw_M_law zye_M_law (by decide +kernel) (zt_M_readsClause hr9) ⟨⟨_, rfl, fun _ => rfl⟩, ⟨_, rfl, fun _ => rfl⟩, ⟨_, rfl, fun _ => rfl⟩, ⟨_, rfl, fun _ => rfl⟩, ⟨_, rfl, fun _ => rfl⟩, ⟨_, rfl, fun _ => rfl⟩, ⟨_, rfl, fun _ => rfl⟩, ⟨_, rfl, fun _ => rfl⟩, trivial⟩ ⟨rfl, rfl, rfl, rfl, rfl, rfl, rfl, trivial⟩ rfl rfl rfl rfl rfl rfl rfl) zd215_71 zxt216 rfl (by decide) (by decide) rfl ?_
            refine zv_zeq hB zd215_74 rfl (fun hc10 => ?_) (fun hc10 => ?_)
            · rw [if_pos hc10] at h
              refine zv_con hB zd215_81 rfl ?_
              refine zv_ist hB zd215_82 rfl rfl rfl ?_
              refine zv_goto hB zd215_83 rfl ?_
              exact ih _ _ _ _ _ _ _ _ _ _ _ _ _ _ _ _ _ _ _ _ _ _ q h hK
            · rw [if_neg hc10] at h
              refine zv_con hB zd215_77 rfl ?_
              refine zv_goto hB zd215_78 rfl ?_
              refine zv_ist hB zd215_82 rfl rfl rfl ?_
              refine zv_goto hB zd215_83 rfl ?_
              exact ih _ _ _ _ _ _ _ _ _ _ _ _ _ _ _ _ _ _ _ _ _ _ q h hK
  have l1 : ∀ (n : Nat) (x3 : Int) (f0 : Int) (f1 : Int) (f2 : Int) (f3 : Int) (f4 : Int) (f5 : Int) (f6 : Int) (f7 : Int) (f8 : Int) (f9 : Int) (g1 : (Int → Int)) (g2 : (Int → Int)) (g3 : (Int → Int)) (g4 : (Int → Int)) (g5 : (Int → Int)) (g6 : (Int → Int)) (g7 : (Int → Int)) (g8 : (Int → Int)) (g9 : (Int → Int)) (g10 : (Int → Int)) (g11 : (Int → Int)) (q : (Int → Int)), zf_M_law_l1 f3 g5 n x3 g7 = some q → (good 136 [.inr 0, .inr 1000, .inr 1000, .inr 1000] [] [.inl f0, .inl f1, .inl f2, .inl f3, .inl f4, .inl f5, .inl f6, .inl f7, .inl f8, .inl f9] [g0, g1, g2, g3, g4, g5, g6, q, g8, g9, g10, g11]) → good 110 [.inr 0, .inr 1000, .inr 1000, .inl x3] [] [.inl f0, .inl f1, .inl f2, .inl f3, .inl f4, .inl f5, .inl f6, .inl f7, .inl f8, .inl f9] [g0, g1, g2, g3, g4, g5, g6, g7, g8, g9, g10, g11] := by
    intro n
    induction n with
    | zero => intro x3 f0 f1 f2 f3 f4 f5 f6 f7 f8 f9 g1 g2 g3 g4 g5 g6 g7 g8 g9 g10 g11 q h; exact absurd (show none = some q from h) (fun h => by cases h)
    | succ n ih =>
      intro x3 f0 f1 f2 f3 f4 f5 f6 f7 f8 f9 g1 g2 g3 g4 g5 g6 g7 g8 g9 g10 g11 q h hK
      replace h : zf_M_law_l1_b f3 g5 (zf_M_law_l1 f3 g5 n) x3 g7 = some q := h
      unfold zf_M_law_l1_b at h
      refine zv_ild hB zd215_110 rfl rfl ?_
      refine zv_ald hB zd215_111 rfl rfl rfl ?_
      refine zv_getf hB zd215_112 rfl rfl (fun _ _ => ?_)
      refine zv_cge hB zd215_115 rfl (fun hc13 => ?_) (fun hc13 => ?_)
      · rw [if_neg (Int.not_lt.mpr hc13)] at h
        have hq := Option.some.inj h
        subst hq
        refine zv_wk hB (L' := [.inr 0, .inr 1000, .inr 1000, .inr 1000]) (F' := [.inl f0, .inl f1, .inl f2, .inl f3, .inl f4, .inl f5, .inl f6, .inl f7, .inl f8, .inl f9]) ⟨fun _ => rfl, fun (h : zv_is (.inr 1000)) => (Nat.lt_irrefl 1000 h).elim, fun (h : zv_is (.inr 1000)) => (Nat.lt_irrefl 1000 h).elim, fun (h : zv_is (.inr 1000)) => (Nat.lt_irrefl 1000 h).elim, trivial⟩ ⟨fun _ => rfl, fun _ => rfl, fun _ => rfl, fun _ => rfl, fun _ => rfl, fun _ => rfl, fun _ => rfl, fun _ => rfl, fun _ => rfl, fun _ => rfl, trivial⟩ ?_
        exact hK
      · rw [if_pos hc13] at h
        refine zv_ald hB zd215_118 rfl rfl rfl ?_
        refine zv_getr hB zd215_119 rfl ?_
        refine zv_ild hB zd215_122 rfl rfl ?_
        refine zv_ald hB zd215_123 rfl rfl rfl ?_
        refine zv_getr hB zd215_124 rfl ?_
        refine zv_ild hB zd215_127 rfl rfl ?_
        obtain ⟨c14, h⟩ := zi_if h
        refine zv_iald hB zd215_128 rfl rfl (zi_ix_ok c14).1 (zi_ix_ok c14).2 (fun _ _ => ?_)
        refine zv_iast hB zd215_129 rfl rfl (zi_ix_ok c14).1 (zi_ix_ok c14).2 ?_
        refine zv_iincw hB zd215_130 rfl rfl ?_
        refine zv_goto hB zd215_133 rfl ?_
        exact ih _ _ _ _ _ _ _ _ _ _ _ _ _ _ _ _ _ _ _ _ _ _ q h hK
  have l2 : ∀ (n : Nat) (x3 : Int) (f0 : Int) (f1 : Int) (f2 : Int) (f3 : Int) (f4 : Int) (f5 : Int) (f6 : Int) (f7 : Int) (f8 : Int) (f9 : Int) (g1 : (Int → Int)) (g2 : (Int → Int)) (g3 : (Int → Int)) (g4 : (Int → Int)) (g5 : (Int → Int)) (g6 : (Int → Int)) (g7 : (Int → Int)) (g8 : (Int → Int)) (g9 : (Int → Int)) (g10 : (Int → Int)) (g11 : (Int → Int)) (q : (Int → Int) × (Int → Int) × (Int → Int) × (Int → Int)), zf_M_law_l2 f4 g1 g2 g3 g6 n x3 g8 g9 g10 g11 = some q → (good 200 [.inr 0, .inr 1000, .inr 1000, .inr 1000] [] [.inl f0, .inl f1, .inl f2, .inl f3, .inl f4, .inl f5, .inl f6, .inl f7, .inl f8, .inl f9] [g0, g1, g2, g3, g4, g5, g6, g7, q.1, q.2.1, q.2.2.1, q.2.2.2]) → good 138 [.inr 0, .inr 1000, .inr 1000, .inl x3] [] [.inl f0, .inl f1, .inl f2, .inl f3, .inl f4, .inl f5, .inl f6, .inl f7, .inl f8, .inl f9] [g0, g1, g2, g3, g4, g5, g6, g7, g8, g9, g10, g11] := by
    intro n
    induction n with
    | zero => intro x3 f0 f1 f2 f3 f4 f5 f6 f7 f8 f9 g1 g2 g3 g4 g5 g6 g7 g8 g9 g10 g11 q h; exact absurd (show none = some q from h) (fun h => by cases h)
    | succ n ih =>
      intro x3 f0 f1 f2 f3 f4 f5 f6 f7 f8 f9 g1 g2 g3 g4 g5 g6 g7 g8 g9 g10 g11 q h hK
      replace h : zf_M_law_l2_b f4 g1 g2 g3 g6 (zf_M_law_l2 f4 g1 g2 g3 g6 n) x3 g8 g9 g10 g11 = some q := h
      unfold zf_M_law_l2_b at h
      refine zv_ild hB zd215_138 rfl rfl ?_
      refine zv_ald hB zd215_139 rfl rfl rfl ?_
      refine zv_getf hB zd215_140 rfl rfl (fun _ _ => ?_)
      refine zv_cge hB zd215_143 rfl (fun hc16 => ?_) (fun hc16 => ?_)
      · rw [if_neg (Int.not_lt.mpr hc16)] at h
        have hq := Option.some.inj h
        subst hq
        refine zv_wk hB (L' := [.inr 0, .inr 1000, .inr 1000, .inr 1000]) (F' := [.inl f0, .inl f1, .inl f2, .inl f3, .inl f4, .inl f5, .inl f6, .inl f7, .inl f8, .inl f9]) ⟨fun _ => rfl, fun (h : zv_is (.inr 1000)) => (Nat.lt_irrefl 1000 h).elim, fun (h : zv_is (.inr 1000)) => (Nat.lt_irrefl 1000 h).elim, fun (h : zv_is (.inr 1000)) => (Nat.lt_irrefl 1000 h).elim, trivial⟩ ⟨fun _ => rfl, fun _ => rfl, fun _ => rfl, fun _ => rfl, fun _ => rfl, fun _ => rfl, fun _ => rfl, fun _ => rfl, fun _ => rfl, fun _ => rfl, trivial⟩ ?_
        exact hK
      · rw [if_pos hc16] at h
        refine zv_ald hB zd215_146 rfl rfl rfl ?_
        refine zv_getr hB zd215_147 rfl ?_
        refine zv_ild hB zd215_150 rfl rfl ?_
        refine zv_ald hB zd215_151 rfl rfl rfl ?_
        refine zv_getr hB zd215_152 rfl ?_
        refine zv_ild hB zd215_155 rfl rfl ?_
        obtain ⟨c17, h⟩ := zi_if h
        refine zv_iald hB zd215_156 rfl rfl (zi_ix_ok c17).1 (zi_ix_ok c17).2 (fun _ _ => ?_)
        refine zv_iast hB zd215_157 rfl rfl (zi_ix_ok c17).1 (zi_ix_ok c17).2 ?_
        refine zv_ald hB zd215_158 rfl rfl rfl ?_
        refine zv_getr hB zd215_159 rfl ?_
        refine zv_ild hB zd215_162 rfl rfl ?_
        refine zv_ald hB zd215_163 rfl rfl rfl ?_
        refine zv_getr hB zd215_164 rfl ?_
        refine zv_ild hB zd215_167 rfl rfl ?_
        refine zv_iald hB zd215_168 rfl rfl (zi_ix_ok c17).1 (zi_ix_ok c17).2 (fun _ _ => ?_)
        refine zv_iast hB zd215_169 rfl rfl (zi_ix_ok c17).1 (zi_ix_ok c17).2 ?_
        refine zv_ald hB zd215_170 rfl rfl rfl ?_
        refine zv_getr hB zd215_171 rfl ?_
        refine zv_ild hB zd215_174 rfl rfl ?_
        refine zv_ald hB zd215_175 rfl rfl rfl ?_
        refine zv_getr hB zd215_176 rfl ?_
        refine zv_ild hB zd215_179 rfl rfl ?_
        refine zv_iald hB zd215_180 rfl rfl (zi_ix_ok c17).1 (zi_ix_ok c17).2 (fun _ _ => ?_)
        refine zv_iast hB zd215_181 rfl rfl (zi_ix_ok c17).1 (zi_ix_ok c17).2 ?_
        refine zv_ald hB zd215_182 rfl rfl rfl ?_
        refine zv_getr hB zd215_183 rfl ?_
        refine zv_ild hB zd215_186 rfl rfl ?_
        refine zv_ald hB zd215_187 rfl rfl rfl ?_
        refine zv_getr hB zd215_188 rfl ?_
        refine zv_ild hB zd215_191 rfl rfl ?_
        refine zv_iald hB zd215_192 rfl rfl (zi_ix_ok c17).1 (zi_ix_ok c17).2 (fun _ _ => ?_)
        refine zv_iast hB zd215_193 rfl rfl (zi_ix_ok c17).1 (zi_ix_ok c17).2 ?_
        refine zv_iincw hB zd215_194 rfl rfl ?_
        refine zv_goto hB zd215_197 rfl ?_
        exact ih _ _ _ _ _ _ _ _ _ _ _ _ _ _ _ _ _ _ _ _ _ _ q h hK
  unfold zf_M_law at h
  refine zv_ild hB zd215_0 rfl rfl ?_
  refine zv_con hB zd215_1 rfl ?_
  refine zv_con hB zd215_2 rfl ?_
  obtain ⟨r1, hr1, h⟩ := zi_bind h
  refine zv_cs hB (zv_emq (va2 := [.inl x1, .inl 1, .inl 200]) (F := [.inl f0, .inl f1, .inl f2, .inl f3, .inl f4, .inl f5, .inl f6, .inl f7, .inl f8, .inl f9]) (F' := [.inl f0, .inl f1, .inl f2, .inl f3, .inl f4, .inl f5, .inl f6, .inl f7, .inl f8, .inl f9]) (G := [g0, g1, g2, g3, g4, g5, g6, g7, g8, g9, g10, g11]) (G' := [g0, g1, g2, g3, g4, g5, g6, g7, g8, g9, g10, g11]) (ρ := []) (φ := []) (ψ := []) [none, none, none, none, none, none, none, none, none, none] [none, none, none, none, none, none, none, none, none, none, none, none] zyw_M_in zyw_M_law zye_M_law (by decide +kernel) (zt_M_in hr1) trivial trivial rfl rfl rfl rfl rfl rfl rfl) zd215_5 zxt200 rfl (by decide) (by decide) rfl ?_
  refine zv_zeq hB zd215_8 rfl (fun hc2 => ?_) (fun hc2 => ?_)
  · rw [if_pos hc2] at h
    refine zv_con hB zd215_19 rfl ?_
    have hw := Option.some.inj h
    subst hw
    exact hret _ _ _ _ _ zd215_20 (by trivial) ⟨rfl, rfl, rfl⟩
  · rw [if_neg hc2] at h
    refine zv_ild hB zd215_11 rfl rfl ?_
    refine zv_ald hB zd215_12 rfl rfl rfl ?_
    refine zv_getf hB zd215_13 rfl rfl (fun _ _ => ?_)
    refine zv_cle hB zd215_16 rfl (fun hc3 => ?_) (fun hc3 => ?_)
    · rw [if_neg (Int.not_lt.mpr hc3)] at h
      refine zv_ald hB zd215_21 rfl rfl rfl ?_
      refine zv_con hB zd215_22 rfl ?_
      refine zv_putf hB zd215_23 rfl rfl (fun h => by cases h) rfl ?_
      refine zv_ald hB zd215_26 rfl rfl rfl ?_
      refine zv_ild hB zd215_27 rfl rfl ?_
      refine zv_putf hB zd215_28 rfl rfl (fun h => by cases h) rfl ?_
      refine zv_ald hB zd215_31 rfl rfl rfl ?_
      refine zv_con hB zd215_32 rfl ?_
      refine zv_putf hB zd215_33 rfl rfl (fun h => by cases h) rfl ?_
      refine zv_ald hB zd215_36 rfl rfl rfl ?_
      refine zv_con hB zd215_37 rfl ?_
      refine zv_putf hB zd215_38 rfl rfl (fun h => by cases h) rfl ?_
      refine zv_ald hB zd215_41 rfl rfl rfl ?_
      obtain ⟨r4, hr4, h⟩ := zi_bind h
      refine zv_cv hB (zv_emq (va2 := [.inr 0]) (F := [.inl f0, .inl 0, .inl x1, .inl 0, .inl 0, .inl f5, .inl f6, .inl f7, .inl f8, .inl f9]) (F' := [.inl f0, .inl r4.2.1, .inl x1, .inl r4.2.2.2.1, .inl r4.2.2.1, .inl r4.2.2.2.2.1, .inl r4.2.2.2.2.2.1, .inl r4.2.2.2.2.2.2.1, .inl r4.2.2.2.2.2.2.2.1, .inl f9]) (G := [g0, g1, g2, g3, g4, g5, g6, g7, g8, g9, g10, g11]) (G' := [g0, r4.2.2.2.2.2.2.2.2.1, r4.2.2.2.2.2.2.2.2.2.1, r4.2.2.2.2.2.2.2.2.2.2.1, r4.2.2.2.2.2.2.2.2.2.2.2.1, r4.2.2.2.2.2.2.2.2.2.2.2.2.1, r4.2.2.2.2.2.2.2.2.2.2.2.2.2, g7, g8, g9, g10, g11]) (ρ := [0, 1, 2, 3, 4, 5, 6, 7]) (φ := [1, 2, 4, 3, 5, 6, 7, 8]) (ψ := [0, 1, 2, 3, 4, 5, 6]) [none, some 0, some 1, some 3, some 2, some 4, some 5, some 6, some 7, none] [some 0, some 1, some 2, some 3, some 4, some 5, some 6, none, none, none, none, none] zyw_M_readsClause zyw_M_law zye_M_law (by decide +kernel) (zt_M_readsClause hr4) ⟨⟨_, rfl, fun _ => rfl⟩, ⟨_, rfl, fun _ => rfl⟩, ⟨_, rfl, fun _ => rfl⟩, ⟨_, rfl, fun _ => rfl⟩, ⟨_, rfl, fun _ => rfl⟩, ⟨_, rfl, fun _ => rfl⟩, ⟨_, rfl, fun _ => rfl⟩, ⟨_, rfl, fun _ => rfl⟩, trivial⟩ ⟨rfl, rfl, rfl, rfl, rfl, rfl, rfl, trivial⟩ rfl rfl rfl rfl rfl rfl rfl) zd215_42 zxt216 rfl (by decide) (by decide) rfl ?_
      refine zv_ist hB zd215_45 rfl rfl rfl ?_
      obtain ⟨q11, hq11, h⟩ := zi_bind h
      refine zv_wk hB (L' := [.inr 0, .inr 1000, .inl r4.1, .inr 1000]) (F' := [.inl f0, .inl r4.2.1, .inl x1, .inl r4.2.2.2.1, .inl r4.2.2.1, .inl r4.2.2.2.2.1, .inl r4.2.2.2.2.2.1, .inl r4.2.2.2.2.2.2.1, .inl r4.2.2.2.2.2.2.2.1, .inl f9]) ⟨fun _ => rfl, fun (h : zv_is (.inr 1000)) => (Nat.lt_irrefl 1000 h).elim, fun _ => rfl, fun (h : zv_is (.inr 1000)) => (Nat.lt_irrefl 1000 h).elim, trivial⟩ ⟨fun _ => rfl, fun _ => rfl, fun _ => rfl, fun _ => rfl, fun _ => rfl, fun _ => rfl, fun _ => rfl, fun _ => rfl, fun _ => rfl, fun _ => rfl, trivial⟩ ?_
      refine l0 _ _ _ _ _ _ _ _ _ _ _ _ _ _ _ _ _ _ _ _ _ _ _ q11 hq11 ?_
      show good 86 [.inr 0, .inr 1000, .inl q11.1, .inr 1000] [] [.inl f0, .inl q11.2.1, .inl x1, .inl q11.2.2.1, .inl q11.2.2.2.1, .inl q11.2.2.2.2.1, .inl q11.2.2.2.2.2.1, .inl q11.2.2.2.2.2.2.1, .inl q11.2.2.2.2.2.2.2.1, .inl f9] [g0, q11.2.2.2.2.2.2.2.2.1, q11.2.2.2.2.2.2.2.2.2.1, q11.2.2.2.2.2.2.2.2.2.2.1, q11.2.2.2.2.2.2.2.2.2.2.2.1, q11.2.2.2.2.2.2.2.2.2.2.2.2.1, q11.2.2.2.2.2.2.2.2.2.2.2.2.2, g7, g8, g9, g10, g11]
      refine zv_ald hB zd215_86 rfl rfl rfl ?_
      refine zv_con hB zd215_87 rfl ?_
      refine zv_putf hB zd215_88 rfl rfl (fun h => by cases h) rfl ?_
      refine zv_ild hB zd215_91 rfl rfl ?_
      refine zv_zne hB zd215_92 rfl (fun hc12 => ?_) (fun hc12 => ?_)
      · rw [if_neg hc12] at h
        refine zv_ald hB zd215_100 rfl rfl rfl ?_
        refine zv_ald hB zd215_101 rfl rfl rfl ?_
        refine zv_getf hB zd215_102 rfl rfl (fun _ _ => ?_)
        refine zv_putf hB zd215_105 rfl rfl (fun h => by cases h) rfl ?_
        refine zv_con hB zd215_108 rfl ?_
        refine zv_ist hB zd215_109 rfl rfl rfl ?_
        obtain ⟨q15, hq15, h⟩ := zi_bind h
        refine zv_wk hB (L' := [.inr 0, .inr 1000, .inr 1000, .inl 0]) (F' := [.inl 0, .inl q11.2.1, .inl x1, .inl q11.2.2.1, .inl q11.2.2.2.1, .inl q11.2.2.2.2.1, .inl q11.2.2.2.2.2.1, .inl q11.2.2.2.2.2.2.1, .inl q11.2.2.2.2.2.2.2.1, .inl q11.2.2.2.1]) ⟨fun _ => rfl, fun (h : zv_is (.inr 1000)) => (Nat.lt_irrefl 1000 h).elim, fun (h : zv_is (.inr 1000)) => (Nat.lt_irrefl 1000 h).elim, fun _ => rfl, trivial⟩ ⟨fun _ => rfl, fun _ => rfl, fun _ => rfl, fun _ => rfl, fun _ => rfl, fun _ => rfl, fun _ => rfl, fun _ => rfl, fun _ => rfl, fun _ => rfl, trivial⟩ ?_
        refine l1 _ _ _ _ _ _ _ _ _ _ _ _ _ _ _ _ _ _ _ _ _ _ _ q15 hq15 ?_
        show good 136 [.inr 0, .inr 1000, .inr 1000, .inr 1000] [] [.inl 0, .inl q11.2.1, .inl x1, .inl q11.2.2.1, .inl q11.2.2.2.1, .inl q11.2.2.2.2.1, .inl q11.2.2.2.2.2.1, .inl q11.2.2.2.2.2.2.1, .inl q11.2.2.2.2.2.2.2.1, .inl q11.2.2.2.1] [g0, q11.2.2.2.2.2.2.2.2.1, q11.2.2.2.2.2.2.2.2.2.1, q11.2.2.2.2.2.2.2.2.2.2.1, q11.2.2.2.2.2.2.2.2.2.2.2.1, q11.2.2.2.2.2.2.2.2.2.2.2.2.1, q11.2.2.2.2.2.2.2.2.2.2.2.2.2, q15, g8, g9, g10, g11]
        refine zv_con hB zd215_136 rfl ?_
        refine zv_ist hB zd215_137 rfl rfl rfl ?_
        obtain ⟨q18, hq18, h⟩ := zi_bind h
        refine l2 _ _ _ _ _ _ _ _ _ _ _ _ _ _ _ _ _ _ _ _ _ _ _ q18 hq18 ?_
        show good 200 [.inr 0, .inr 1000, .inr 1000, .inr 1000] [] [.inl 0, .inl q11.2.1, .inl x1, .inl q11.2.2.1, .inl q11.2.2.2.1, .inl q11.2.2.2.2.1, .inl q11.2.2.2.2.2.1, .inl q11.2.2.2.2.2.2.1, .inl q11.2.2.2.2.2.2.2.1, .inl q11.2.2.2.1] [g0, q11.2.2.2.2.2.2.2.2.1, q11.2.2.2.2.2.2.2.2.2.1, q11.2.2.2.2.2.2.2.2.2.2.1, q11.2.2.2.2.2.2.2.2.2.2.2.1, q11.2.2.2.2.2.2.2.2.2.2.2.2.1, q11.2.2.2.2.2.2.2.2.2.2.2.2.2, q15, q18.1, q18.2.1, q18.2.2.1, q18.2.2.2]
        refine zv_ald hB zd215_200 rfl rfl rfl ?_
        refine zv_getf hB zd215_201 rfl rfl (fun _ _ => ?_)
        have hw := Option.some.inj h
        subst hw
        exact hret _ _ _ _ _ zd215_204 (by trivial) ⟨rfl, rfl, rfl⟩
      · rw [if_pos hc12] at h
        refine zv_ald hB zd215_95 rfl rfl rfl ?_
        refine zv_getf hB zd215_96 rfl rfl (fun _ _ => ?_)
        have hw := Option.some.inj h
        subst hw
        exact hret _ _ _ _ _ zd215_99 (by trivial) ⟨rfl, rfl, rfl⟩
    · rw [if_pos hc3] at h
      refine zv_con hB zd215_19 rfl ?_
      have hw := Option.some.inj h
      subst hw
      exact hret _ _ _ _ _ zd215_20 (by trivial) ⟨rfl, rfl, rfl⟩
/-! M_standsAt (I)I -/
-- names: 0 StarTalesModel('arg', 0), 1 (0, 422)(0, 12, 0)
-- fields: ; arrays: g0 = 1; out: [('ret', None)]
abbrev zy_M_standsAt : zNL := (2, [(0, 12)], [], [(0, 12, 0, 1)], [(1, 0, 422, 0)])
theorem zyw_M_standsAt : zv_wf zy_M_standsAt = true := by decide +kernel
theorem zye_M_standsAt : zv_ek2 zy_M_standsAt = true := by decide +kernel
def zf_M_standsAt (x1 : Int) (g0 : (Int → Int)) : Option (Int) := cond (zi_ix (zi_w (0 + x1)) 422) (some (zi_rem (zi_w ((g0 (zi_w (0 + x1))) + (g0 128))) 24)) none
theorem zd238_0 : decode zxm238.2.1 0 = .ok (.aload_n 0, 1) := by decide +kernel
theorem zd238_1 : decode zxm238.2.1 1 = .ok (.getfield 7, 3) := by decide +kernel
theorem zd238_4 : decode zxm238.2.1 4 = .ok (.iconst 0, 1) := by decide +kernel
theorem zd238_5 : decode zxm238.2.1 5 = .ok (.iload_n 1, 1) := by decide +kernel
theorem zd238_6 : decode zxm238.2.1 6 = .ok (.iadd, 1) := by decide +kernel
theorem zd238_7 : decode zxm238.2.1 7 = .ok (.iaload, 1) := by decide +kernel
theorem zd238_8 : decode zxm238.2.1 8 = .ok (.aload_n 0, 1) := by decide +kernel
theorem zd238_9 : decode zxm238.2.1 9 = .ok (.getfield 7, 3) := by decide +kernel
theorem zd238_12 : decode zxm238.2.1 12 = .ok (.sipush 128, 3) := by decide +kernel
theorem zd238_15 : decode zxm238.2.1 15 = .ok (.iaload, 1) := by decide +kernel
theorem zd238_16 : decode zxm238.2.1 16 = .ok (.iadd, 1) := by decide +kernel
theorem zd238_17 : decode zxm238.2.1 17 = .ok (.bipush 24, 2) := by decide +kernel
theorem zd238_19 : decode zxm238.2.1 19 = .ok (.irem, 1) := by decide +kernel
theorem zd238_20 : decode zxm238.2.1 20 = .ok (.ireturn, 1) := by decide +kernel
theorem zt_M_standsAt {x1 : Int} {g0 : (Int → Int)} {o : Int} (h : zf_M_standsAt x1 g0 = some o) : zv_Fn z_TB z_cl z_KX zy_M_standsAt zxm238 (0, 0) [.inr 0, .inl x1] [] [g0] (some o) [] [g0] := zv_meth (K := (z_KF13, z_KC13, z_KL13, z_KT13, [], [], [], none)) (FT := z_FT) (MT := z_MT) (n := 2) zxp238 (z_ks13 _ (fun _ h => List.mem_cons_of_mem _ h) _ _ _ _ (fun j r h _ => by cases h)) (fun _ _ => zs_KX_p) zyw_M_standsAt (fun va F G h => by obtain ⟨rfl, _⟩ := h; rfl) (fun va F G h => by obtain ⟨rfl, _⟩ := h; rfl) rfl fun good va F G hB hret hvret hP => by
  obtain ⟨rfl, rfl, rfl⟩ := hP
  unfold zf_M_standsAt at h
  refine zv_ald hB zd238_0 rfl rfl rfl ?_
  refine zv_getr hB zd238_1 rfl ?_
  refine zv_con hB zd238_4 rfl ?_
  refine zv_ild hB zd238_5 rfl rfl ?_
  refine zv_addw hB zd238_6 ?_
  obtain ⟨c1, h⟩ := zi_if h
  refine zv_iald hB zd238_7 rfl rfl (zi_ix_ok c1).1 (zi_ix_ok c1).2 (fun _ _ => ?_)
  refine zv_ald hB zd238_8 rfl rfl rfl ?_
  refine zv_getr hB zd238_9 rfl ?_
  refine zv_con hB zd238_12 rfl ?_
  refine zv_iald hB zd238_15 rfl rfl (by decide) (by decide) (fun _ _ => ?_)
  refine zv_addw hB zd238_16 ?_
  refine zv_con hB zd238_17 rfl ?_
  refine zv_remw hB zd238_19 (by decide) ?_
  have hw := Option.some.inj h
  subst hw
  exact hret _ _ _ _ _ zd238_20 (by trivial) ⟨rfl, rfl, rfl⟩
/-! M_starIs (II)I -/
-- names: 0 StarTalesModel('arg', 0), 1 (0, 422)(0, 12, 0)
-- fields: ; arrays: g0 = 1; out: [('ret', None)]
abbrev zy_M_starIs : zNL := (2, [(0, 12)], [], [(0, 12, 0, 1)], [(1, 0, 422, 0)])
theorem zyw_M_starIs : zv_wf zy_M_starIs = true := by decide +kernel
theorem zye_M_starIs : zv_ek2 zy_M_starIs = true := by decide +kernel
def zf_M_starIs (x1 : Int) (x2 : Int) (g0 : (Int → Int)) : Option (Int) := (zf_M_isTold x1 g0).bind fun r1 => (if r1 = 0 then (some (-1)) else (if x2 = 0 then (cond (zi_ix (zi_w (0 + x1)) 422) (some (g0 (zi_w (0 + x1)))) none) else (if x2 = 1 then (cond (zi_ix (zi_w (24 + x1)) 422) (some (g0 (zi_w (24 + x1)))) none) else (if x2 = 2 then (cond (zi_ix (zi_w (48 + x1)) 422) (some (g0 (zi_w (48 + x1)))) none) else (if x2 = 3 then ((zf_M_standsAt x1 g0).bind fun r10 => (some r10)) else (if x2 = 4 then (cond (zi_ix (zi_w (72 + x1)) 422) (some (zi_w ((g0 (zi_w (72 + x1))) + 3))) none) else (if x2 = 5 then (cond (zi_ix (zi_w (96 + x1)) 422) (some (zi_w ((g0 (zi_w (96 + x1))) + 3))) none) else (some (-1)))))))))
theorem zd237_0 : decode zxm237.2.1 0 = .ok (.aload_n 0, 1) := by decide +kernel
theorem zd237_1 : decode zxm237.2.1 1 = .ok (.iload_n 1, 1) := by decide +kernel
theorem zd237_2 : decode zxm237.2.1 2 = .ok (.invokevirtual 157, 3) := by decide +kernel
theorem zd237_5 : decode zxm237.2.1 5 = .ok (.ifCond .ne 5, 3) := by decide +kernel
theorem zd237_8 : decode zxm237.2.1 8 = .ok (.iconst (-1), 1) := by decide +kernel
theorem zd237_9 : decode zxm237.2.1 9 = .ok (.ireturn, 1) := by decide +kernel
theorem zd237_10 : decode zxm237.2.1 10 = .ok (.iload_n 2, 1) := by decide +kernel
theorem zd237_11 : decode zxm237.2.1 11 = .ok (.tableswitch 96 0 5 #[37, 46, 56, 66, 72, 84], 37) := by decide +kernel
theorem zd237_48 : decode zxm237.2.1 48 = .ok (.aload_n 0, 1) := by decide +kernel
theorem zd237_49 : decode zxm237.2.1 49 = .ok (.getfield 7, 3) := by decide +kernel
theorem zd237_52 : decode zxm237.2.1 52 = .ok (.iconst 0, 1) := by decide +kernel
theorem zd237_53 : decode zxm237.2.1 53 = .ok (.iload_n 1, 1) := by decide +kernel
theorem zd237_54 : decode zxm237.2.1 54 = .ok (.iadd, 1) := by decide +kernel
theorem zd237_55 : decode zxm237.2.1 55 = .ok (.iaload, 1) := by decide +kernel
theorem zd237_56 : decode zxm237.2.1 56 = .ok (.ireturn, 1) := by decide +kernel
theorem zd237_57 : decode zxm237.2.1 57 = .ok (.aload_n 0, 1) := by decide +kernel
theorem zd237_58 : decode zxm237.2.1 58 = .ok (.getfield 7, 3) := by decide +kernel
theorem zd237_61 : decode zxm237.2.1 61 = .ok (.bipush 24, 2) := by decide +kernel
theorem zd237_63 : decode zxm237.2.1 63 = .ok (.iload_n 1, 1) := by decide +kernel
theorem zd237_64 : decode zxm237.2.1 64 = .ok (.iadd, 1) := by decide +kernel
theorem zd237_65 : decode zxm237.2.1 65 = .ok (.iaload, 1) := by decide +kernel
theorem zd237_66 : decode zxm237.2.1 66 = .ok (.ireturn, 1) := by decide +kernel
theorem zd237_67 : decode zxm237.2.1 67 = .ok (.aload_n 0, 1) := by decide +kernel
theorem zd237_68 : decode zxm237.2.1 68 = .ok (.getfield 7, 3) := by decide +kernel
theorem zd237_71 : decode zxm237.2.1 71 = .ok (.bipush 48, 2) := by decide +kernel
theorem zd237_73 : decode zxm237.2.1 73 = .ok (.iload_n 1, 1) := by decide +kernel
theorem zd237_74 : decode zxm237.2.1 74 = .ok (.iadd, 1) := by decide +kernel
theorem zd237_75 : decode zxm237.2.1 75 = .ok (.iaload, 1) := by decide +kernel
theorem zd237_76 : decode zxm237.2.1 76 = .ok (.ireturn, 1) := by decide +kernel
theorem zd237_77 : decode zxm237.2.1 77 = .ok (.aload_n 0, 1) := by decide +kernel
theorem zd237_78 : decode zxm237.2.1 78 = .ok (.iload_n 1, 1) := by decide +kernel
theorem zd237_79 : decode zxm237.2.1 79 = .ok (.invokevirtual 281, 3) := by decide +kernel
theorem zd237_82 : decode zxm237.2.1 82 = .ok (.ireturn, 1) := by decide +kernel
theorem zd237_83 : decode zxm237.2.1 83 = .ok (.aload_n 0, 1) := by decide +kernel
theorem zd237_84 : decode zxm237.2.1 84 = .ok (.getfield 7, 3) := by decide +kernel
theorem zd237_87 : decode zxm237.2.1 87 = .ok (.bipush 72, 2) := by decide +kernel
theorem zd237_89 : decode zxm237.2.1 89 = .ok (.iload_n 1, 1) := by decide +kernel
theorem zd237_90 : decode zxm237.2.1 90 = .ok (.iadd, 1) := by decide +kernel
theorem zd237_91 : decode zxm237.2.1 91 = .ok (.iaload, 1) := by decide +kernel
theorem zd237_92 : decode zxm237.2.1 92 = .ok (.iconst 3, 1) := by decide +kernel
theorem zd237_93 : decode zxm237.2.1 93 = .ok (.iadd, 1) := by decide +kernel
theorem zd237_94 : decode zxm237.2.1 94 = .ok (.ireturn, 1) := by decide +kernel
theorem zd237_95 : decode zxm237.2.1 95 = .ok (.aload_n 0, 1) := by decide +kernel
theorem zd237_96 : decode zxm237.2.1 96 = .ok (.getfield 7, 3) := by decide +kernel
theorem zd237_99 : decode zxm237.2.1 99 = .ok (.bipush 96, 2) := by decide +kernel
theorem zd237_101 : decode zxm237.2.1 101 = .ok (.iload_n 1, 1) := by decide +kernel
theorem zd237_102 : decode zxm237.2.1 102 = .ok (.iadd, 1) := by decide +kernel
theorem zd237_103 : decode zxm237.2.1 103 = .ok (.iaload, 1) := by decide +kernel
theorem zd237_104 : decode zxm237.2.1 104 = .ok (.iconst 3, 1) := by decide +kernel
theorem zd237_105 : decode zxm237.2.1 105 = .ok (.iadd, 1) := by decide +kernel
theorem zd237_106 : decode zxm237.2.1 106 = .ok (.ireturn, 1) := by decide +kernel
theorem zd237_107 : decode zxm237.2.1 107 = .ok (.iconst (-1), 1) := by decide +kernel
theorem zd237_108 : decode zxm237.2.1 108 = .ok (.ireturn, 1) := by decide +kernel
theorem zt_M_starIs {x1 : Int} {x2 : Int} {g0 : (Int → Int)} {o : Int} (h : zf_M_starIs x1 x2 g0 = some o) : zv_Fn z_TB z_cl z_KX zy_M_starIs zxm237 (2, 120) [.inr 0, .inl x1, .inl x2] [] [g0] (some o) [] [g0] := zv_meth (K := (z_KF13, z_KC13, z_KL13, z_KT13, [], [], [], none)) (FT := z_FT) (MT := z_MT) (n := 3) zxp237 (z_ks13 _ (fun _ h => List.mem_cons_of_mem _ h) _ _ _ _ (fun j r h _ => by cases h)) (fun _ _ => zs_KX_p) zyw_M_starIs (fun va F G h => by obtain ⟨rfl, _⟩ := h; rfl) (fun va F G h => by obtain ⟨rfl, _⟩ := h; rfl) rfl fun good va F G hB hret hvret hP => by
  obtain ⟨rfl, rfl, rfl⟩ := hP
  unfold zf_M_starIs at h
  refine zv_ald hB zd237_0 rfl rfl rfl ?_
  refine zv_ild hB zd237_1 rfl rfl ?_
  obtain ⟨r1, hr1, h⟩ := zi_bind h
  refine zv_cv hB (zv_emq (va2 := [.inr 0, .inl x1]) (F := []) (F' := []) (G := [g0]) (G' := [g0]) (ρ := [0, 1]) (φ := []) (ψ := [0]) [] [some 0] zyw_M_isTold zyw_M_starIs zye_M_starIs (by decide +kernel) (zt_M_isTold hr1) trivial ⟨rfl, trivial⟩ rfl rfl rfl rfl rfl rfl rfl) zd237_2 zxt203 rfl (by decide) (by decide) rfl ?_
  refine zv_zne hB zd237_5 rfl (fun hc2 => ?_) (fun hc2 => ?_)
  · rw [if_neg hc2] at h
    refine zv_ild hB zd237_10 rfl rfl ?_
    refine zv_tsw hB zd237_11 rfl ?_
    refine ⟨fun hc3 => ⟨_, rfl, ?_⟩, fun hc3 => ?_⟩
    · replace hc3 : x2 = 0 := hc3
      rw [if_pos hc3] at h
      refine zv_ald hB zd237_48 rfl rfl rfl ?_
      refine zv_getr hB zd237_49 rfl ?_
      refine zv_con hB zd237_52 rfl ?_
      refine zv_ild hB zd237_53 rfl rfl ?_
      refine zv_addw hB zd237_54 ?_
      obtain ⟨c4, h⟩ := zi_if h
      refine zv_iald hB zd237_55 rfl rfl (zi_ix_ok c4).1 (zi_ix_ok c4).2 (fun _ _ => ?_)
      have hw := Option.some.inj h
      subst hw
      exact hret _ _ _ _ _ zd237_56 (by trivial) ⟨rfl, rfl, rfl⟩
    replace hc3 : x2 ≠ 0 := hc3
    rw [if_neg hc3] at h
    refine ⟨fun hc5 => ⟨_, rfl, ?_⟩, fun hc5 => ?_⟩
    · replace hc5 : x2 = 1 := hc5
      rw [if_pos hc5] at h
      refine zv_ald hB zd237_57 rfl rfl rfl ?_
      refine zv_getr hB zd237_58 rfl ?_
      refine zv_con hB zd237_61 rfl ?_
      refine zv_ild hB zd237_63 rfl rfl ?_
      refine zv_addw hB zd237_64 ?_
      obtain ⟨c6, h⟩ := zi_if h
      refine zv_iald hB zd237_65 rfl rfl (zi_ix_ok c6).1 (zi_ix_ok c6).2 (fun _ _ => ?_)
      have hw := Option.some.inj h
      subst hw
      exact hret _ _ _ _ _ zd237_66 (by trivial) ⟨rfl, rfl, rfl⟩
    replace hc5 : x2 ≠ 1 := hc5
    rw [if_neg hc5] at h
    refine ⟨fun hc7 => ⟨_, rfl, ?_⟩, fun hc7 => ?_⟩
    · replace hc7 : x2 = 2 := hc7
      rw [if_pos hc7] at h
      refine zv_ald hB zd237_67 rfl rfl rfl ?_
      refine zv_getr hB zd237_68 rfl ?_
      refine zv_con hB zd237_71 rfl ?_
      refine zv_ild hB zd237_73 rfl rfl ?_
      refine zv_addw hB zd237_74 ?_
      obtain ⟨c8, h⟩ := zi_if h
      refine zv_iald hB zd237_75 rfl rfl (zi_ix_ok c8).1 (zi_ix_ok c8).2 (fun _ _ => ?_)
      have hw := Option.some.inj h
      subst hw
      exact hret _ _ _ _ _ zd237_76 (by trivial) ⟨rfl, rfl, rfl⟩
    replace hc7 : x2 ≠ 2 := hc7
    rw [if_neg hc7] at h
    refine ⟨fun hc9 => ⟨_, rfl, ?_⟩, fun hc9 => ?_⟩
    · replace hc9 : x2 = 3 := hc9
      rw [if_pos hc9] at h
      refine zv_ald hB zd237_77 rfl rfl rfl ?_
      refine zv_ild hB zd237_78 rfl rfl ?_
      obtain ⟨r10, hr10, h⟩ := zi_bind h
      refine zv_cv hB (zv_emq (va2 := [.inr 0, .inl x1]) (F := []) (F' := []) (G := [g0]) (G' := [g0]) (ρ := [0, 1]) (φ := []) (ψ := [0]) [] [some 0] zyw_M_standsAt zyw_M_starIs zye_M_starIs (by decide +kernel) (zt_M_standsAt hr10) trivial ⟨rfl, trivial⟩ rfl rfl rfl rfl rfl rfl rfl) zd237_79 zxt238 rfl (by decide) (by decide) rfl ?_
      have hw := Option.some.inj h
      subst hw
      exact hret _ _ _ _ _ zd237_82 (by trivial) ⟨rfl, rfl, rfl⟩
    replace hc9 : x2 ≠ 3 := hc9
    rw [if_neg hc9] at h
    refine ⟨fun hc11 => ⟨_, rfl, ?_⟩, fun hc11 => ?_⟩
    · replace hc11 : x2 = 4 := hc11
      rw [if_pos hc11] at h
      refine zv_ald hB zd237_83 rfl rfl rfl ?_
      refine zv_getr hB zd237_84 rfl ?_
      refine zv_con hB zd237_87 rfl ?_
      refine zv_ild hB zd237_89 rfl rfl ?_
      refine zv_addw hB zd237_90 ?_
      obtain ⟨c12, h⟩ := zi_if h
      refine zv_iald hB zd237_91 rfl rfl (zi_ix_ok c12).1 (zi_ix_ok c12).2 (fun _ _ => ?_)
      refine zv_con hB zd237_92 rfl ?_
      refine zv_addw hB zd237_93 ?_
      have hw := Option.some.inj h
      subst hw
      exact hret _ _ _ _ _ zd237_94 (by trivial) ⟨rfl, rfl, rfl⟩
    replace hc11 : x2 ≠ 4 := hc11
    rw [if_neg hc11] at h
    refine ⟨fun hc13 => ⟨_, rfl, ?_⟩, fun hc13 => ?_⟩
    · replace hc13 : x2 = 5 := hc13
      rw [if_pos hc13] at h
      refine zv_ald hB zd237_95 rfl rfl rfl ?_
      refine zv_getr hB zd237_96 rfl ?_
      refine zv_con hB zd237_99 rfl ?_
      refine zv_ild hB zd237_101 rfl rfl ?_
      refine zv_addw hB zd237_102 ?_
      obtain ⟨c14, h⟩ := zi_if h
      refine zv_iald hB zd237_103 rfl rfl (zi_ix_ok c14).1 (zi_ix_ok c14).2 (fun _ _ => ?_)
      refine zv_con hB zd237_104 rfl ?_
      refine zv_addw hB zd237_105 ?_
      have hw := Option.some.inj h
      subst hw
      exact hret _ _ _ _ _ zd237_106 (by trivial) ⟨rfl, rfl, rfl⟩
    replace hc13 : x2 ≠ 5 := hc13
    rw [if_neg hc13] at h
    refine ⟨_, rfl, ?_⟩
    refine zv_con hB zd237_107 rfl ?_
    have hw := Option.some.inj h
    subst hw
    exact hret _ _ _ _ _ zd237_108 (by trivial) ⟨rfl, rfl, rfl⟩
  · rw [if_pos hc2] at h
    refine zv_con hB zd237_8 rfl ?_
    have hw := Option.some.inj h
    subst hw
    exact hret _ _ _ _ _ zd237_9 (by trivial) ⟨rfl, rfl, rfl⟩
/-! M_toRight (II)I -/
-- names: 
-- fields: ; arrays: ; out: [('ret', None)]
abbrev zy_M_toRight : zNL := (0, [], [], [], [])
theorem zyw_M_toRight : zv_wf zy_M_toRight = true := by decide +kernel
theorem zye_M_toRight : zv_ek2 zy_M_toRight = true := by decide +kernel
def zf_M_toRight (x0 : Int) (x1 : Int) : Option (Int) := if 12 < (zi_rem (zi_w ((zi_w (x1 - x0)) + 24)) 24) then (some (zi_w ((zi_rem (zi_w ((zi_w (x1 - x0)) + 24)) 24) - 24))) else (some (zi_rem (zi_w ((zi_w (x1 - x0)) + 24)) 24))
theorem zd242_0 : decode zxm242.2.1 0 = .ok (.iload_n 1, 1) := by decide +kernel
theorem zd242_1 : decode zxm242.2.1 1 = .ok (.iload_n 0, 1) := by decide +kernel
theorem zd242_2 : decode zxm242.2.1 2 = .ok (.isub, 1) := by decide +kernel
theorem zd242_3 : decode zxm242.2.1 3 = .ok (.bipush 24, 2) := by decide +kernel
theorem zd242_5 : decode zxm242.2.1 5 = .ok (.iadd, 1) := by decide +kernel
theorem zd242_6 : decode zxm242.2.1 6 = .ok (.bipush 24, 2) := by decide +kernel
theorem zd242_8 : decode zxm242.2.1 8 = .ok (.irem, 1) := by decide +kernel
theorem zd242_9 : decode zxm242.2.1 9 = .ok (.istore_n 2, 1) := by decide +kernel
theorem zd242_10 : decode zxm242.2.1 10 = .ok (.iload_n 2, 1) := by decide +kernel
theorem zd242_11 : decode zxm242.2.1 11 = .ok (.bipush 12, 2) := by decide +kernel
theorem zd242_13 : decode zxm242.2.1 13 = .ok (.if_icmp .le 10, 3) := by decide +kernel
theorem zd242_16 : decode zxm242.2.1 16 = .ok (.iload_n 2, 1) := by decide +kernel
theorem zd242_17 : decode zxm242.2.1 17 = .ok (.bipush 24, 2) := by decide +kernel
theorem zd242_19 : decode zxm242.2.1 19 = .ok (.isub, 1) := by decide +kernel
theorem zd242_20 : decode zxm242.2.1 20 = .ok (.goto 4, 3) := by decide +kernel
theorem zd242_23 : decode zxm242.2.1 23 = .ok (.iload_n 2, 1) := by decide +kernel
theorem zd242_24 : decode zxm242.2.1 24 = .ok (.ireturn, 1) := by decide +kernel
theorem zt_M_toRight {x0 : Int} {x1 : Int} {o : Int} (h : zf_M_toRight x0 x1 = some o) : zv_Fn z_TB z_cl z_KX zy_M_toRight zxm242 (0, 0) [.inl x0, .inl x1] [] [] (some o) [] [] := zv_meth (K := (z_KF13, z_KC13, z_KL13, z_KT13, [], [], [], none)) (FT := z_FT) (MT := z_MT) (n := 2) zxp242 (z_ks13 _ (fun _ h => List.mem_cons_of_mem _ h) _ _ _ _ (fun j r h _ => by cases h)) (fun _ _ => zs_KX_p) zyw_M_toRight (fun va F G h => by obtain ⟨rfl, _⟩ := h; rfl) (fun va F G h => by obtain ⟨rfl, _⟩ := h; rfl) rfl fun good va F G hB hret hvret hP => by
  obtain ⟨rfl, rfl, rfl⟩ := hP
  unfold zf_M_toRight at h
  refine zv_ild hB zd242_0 rfl rfl ?_
  refine zv_ild hB zd242_1 rfl rfl ?_
  refine zv_subw hB zd242_2 ?_
  refine zv_con hB zd242_3 rfl ?_
  refine zv_addw hB zd242_5 ?_
  refine zv_con hB zd242_6 rfl ?_
  refine zv_remw hB zd242_8 (by decide) ?_
  refine zv_ist hB zd242_9 rfl rfl rfl ?_
  refine zv_ild hB zd242_10 rfl rfl ?_
  refine zv_con hB zd242_11 rfl ?_
  refine zv_cle hB zd242_13 rfl (fun hc1 => ?_) (fun hc1 => ?_)
  · rw [if_neg (Int.not_lt.mpr hc1)] at h
    refine zv_ild hB zd242_23 rfl rfl ?_
    have hw := Option.some.inj h
    subst hw
    exact hret _ _ _ _ _ zd242_24 (by trivial) ⟨rfl, rfl, rfl⟩
  · rw [if_pos hc1] at h
    refine zv_ild hB zd242_16 rfl rfl ?_
    refine zv_con hB zd242_17 rfl ?_
    refine zv_subw hB zd242_19 ?_
    refine zv_goto hB zd242_20 rfl ?_
    have hw := Option.some.inj h
    subst hw
    exact hret _ _ _ _ _ zd242_24 (by trivial) ⟨rfl, rfl, rfl⟩
/-! M_size (I)I -/
-- names: 
-- fields: ; arrays: ; out: [('ret', None)]
abbrev zy_M_size : zNL := (0, [], [], [], [])
theorem zyw_M_size : zv_wf zy_M_size = true := by decide +kernel
theorem zye_M_size : zv_ek2 zy_M_size = true := by decide +kernel
def zf_M_size (x0 : Int) : Option (Int) := if x0 < 0 then (some (zi_w (-x0))) else (some x0)
theorem zd243_0 : decode zxm243.2.1 0 = .ok (.iload_n 0, 1) := by decide +kernel
theorem zd243_1 : decode zxm243.2.1 1 = .ok (.ifCond .ge 8, 3) := by decide +kernel
theorem zd243_4 : decode zxm243.2.1 4 = .ok (.iload_n 0, 1) := by decide +kernel
theorem zd243_5 : decode zxm243.2.1 5 = .ok (.ineg, 1) := by decide +kernel
theorem zd243_6 : decode zxm243.2.1 6 = .ok (.goto 4, 3) := by decide +kernel
theorem zd243_9 : decode zxm243.2.1 9 = .ok (.iload_n 0, 1) := by decide +kernel
theorem zd243_10 : decode zxm243.2.1 10 = .ok (.ireturn, 1) := by decide +kernel
theorem zt_M_size {x0 : Int} {o : Int} (h : zf_M_size x0 = some o) : zv_Fn z_TB z_cl z_KX zy_M_size zxm243 (0, 0) [.inl x0] [] [] (some o) [] [] := zv_meth (K := (z_KF13, z_KC13, z_KL13, z_KT13, [], [], [], none)) (FT := z_FT) (MT := z_MT) (n := 1) zxp243 (z_ks13 _ (fun _ h => List.mem_cons_of_mem _ h) _ _ _ _ (fun j r h _ => by cases h)) (fun _ _ => zs_KX_p) zyw_M_size (fun va F G h => by obtain ⟨rfl, _⟩ := h; rfl) (fun va F G h => by obtain ⟨rfl, _⟩ := h; rfl) rfl fun good va F G hB hret hvret hP => by
  obtain ⟨rfl, rfl, rfl⟩ := hP
  unfold zf_M_size at h
  refine zv_ild hB zd243_0 rfl rfl ?_
  refine zv_zge hB zd243_1 rfl (fun hc1 => ?_) (fun hc1 => ?_)
  · rw [if_neg (Int.not_lt.mpr hc1)] at h
    refine zv_ild hB zd243_9 rfl rfl ?_
    have hw := Option.some.inj h
    subst hw
    exact hret _ _ _ _ _ zd243_10 (by trivial) ⟨rfl, rfl, rfl⟩
  · rw [if_pos hc1] at h
    refine zv_ild hB zd243_4 rfl rfl ?_
    refine zv_negw hB zd243_5 ?_
    refine zv_goto hB zd243_6 rfl ?_
    have hw := Option.some.inj h
    subst hw
    exact hret _ _ _ _ _ zd243_10 (by trivial) ⟨rfl, rfl, rfl⟩
/-! M_hasClause (I)Z -/
-- names: 0 StarTalesModel('arg', 0), 1 (0, 14)(0, 12, 21)
-- fields: f0 = 0.clauses_; arrays: g0 = 1; out: [('ret', None)]
abbrev zy_M_hasClause : zNL := (2, [(0, 12)], [(0, 12, 13, 0)], [(0, 12, 21, 1)], [(1, 0, 14, 0)])
theorem zyw_M_hasClause : zv_wf zy_M_hasClause = true := by decide +kernel
theorem zye_M_hasClause : zv_ek2 zy_M_hasClause = true := by decide +kernel
def zf_M_hasClause_l0_b (x1 : Int) (f0 : Int) (g0 : (Int → Int)) (rec : Int → Option (((Unit) ⊕ (Int)))) (x2 : Int) : Option (((Unit) ⊕ (Int))) := if x2 < f0 then (cond (zi_ix x2 14) (if (g0 x2) = x1 then (some (.inr 1)) else (rec (zi_w (x2 + 1)))) none) else (some (.inl ()))
def zf_M_hasClause_l0 (x1 : Int) (f0 : Int) (g0 : (Int → Int)) : Nat → Int → Option (((Unit) ⊕ (Int)))
  | 0, _ => none
  | n + 1, x2 => zf_M_hasClause_l0_b x1 f0 g0 (zf_M_hasClause_l0 x1 f0 g0 n) x2
def zf_M_hasClause (x1 : Int) (f0 : Int) (g0 : (Int → Int)) : Option (Int) := (zf_M_hasClause_l0 x1 f0 g0 zi_fu 0).bind fun q4 => Sum.elim (fun e5 => (some 0)) (fun w6 => some w6) q4
theorem zd244_0 : decode zxm244.2.1 0 = .ok (.iconst 0, 1) := by decide +kernel
theorem zd244_1 : decode zxm244.2.1 1 = .ok (.istore_n 2, 1) := by decide +kernel
theorem zd244_2 : decode zxm244.2.1 2 = .ok (.iload_n 2, 1) := by decide +kernel
theorem zd244_3 : decode zxm244.2.1 3 = .ok (.aload_n 0, 1) := by decide +kernel
theorem zd244_4 : decode zxm244.2.1 4 = .ok (.getfield 268, 3) := by decide +kernel
theorem zd244_7 : decode zxm244.2.1 7 = .ok (.if_icmp .ge 21, 3) := by decide +kernel
theorem zd244_10 : decode zxm244.2.1 10 = .ok (.aload_n 0, 1) := by decide +kernel
theorem zd244_11 : decode zxm244.2.1 11 = .ok (.getfield 44, 3) := by decide +kernel
theorem zd244_14 : decode zxm244.2.1 14 = .ok (.iload_n 2, 1) := by decide +kernel
theorem zd244_15 : decode zxm244.2.1 15 = .ok (.iaload, 1) := by decide +kernel
theorem zd244_16 : decode zxm244.2.1 16 = .ok (.iload_n 1, 1) := by decide +kernel
theorem zd244_17 : decode zxm244.2.1 17 = .ok (.if_icmp .ne 5, 3) := by decide +kernel
theorem zd244_20 : decode zxm244.2.1 20 = .ok (.iconst 1, 1) := by decide +kernel
theorem zd244_21 : decode zxm244.2.1 21 = .ok (.ireturn, 1) := by decide +kernel
theorem zd244_22 : decode zxm244.2.1 22 = .ok (.iinc 2 1, 3) := by decide +kernel
theorem zd244_25 : decode zxm244.2.1 25 = .ok (.goto (-23), 3) := by decide +kernel
theorem zd244_28 : decode zxm244.2.1 28 = .ok (.iconst 0, 1) := by decide +kernel
theorem zd244_29 : decode zxm244.2.1 29 = .ok (.ireturn, 1) := by decide +kernel
theorem zt_M_hasClause {x1 : Int} {f0 : Int} {g0 : (Int → Int)} {o : Int} (h : zf_M_hasClause x1 f0 g0 = some o) : zv_Fn z_TB z_cl z_KX zy_M_hasClause zxm244 (0, 0) [.inr 0, .inl x1] [.inl f0] [g0] (some o) [.inl f0] [g0] := zv_meth (K := (z_KF13, z_KC13, z_KL13, z_KT13, [], [], [], none)) (FT := z_FT) (MT := z_MT) (n := 2) zxp244 (z_ks13 _ (fun _ h => List.mem_cons_of_mem _ h) _ _ _ _ (fun j r h _ => by cases h)) (fun _ _ => zs_KX_p) zyw_M_hasClause (fun va F G h => by obtain ⟨rfl, _⟩ := h; rfl) (fun va F G h => by obtain ⟨rfl, _⟩ := h; rfl) rfl fun good va F G hB hret hvret hP => by
  obtain ⟨rfl, rfl, rfl⟩ := hP
  have l0 : ∀ (n : Nat) (x1 : Int) (x2 : Int) (q : ((Unit) ⊕ (Int))), zf_M_hasClause_l0 x1 f0 g0 n x2 = some q → (Sum.elim (fun e : Unit => good 28 [.inr 1000, .inr 1000, .inr 1000] [] [.inl f0] [g0]) (fun w : Int => w = o) q) → good 2 [.inr 0, .inl x1, .inl x2] [] [.inl f0] [g0] := by
    intro n
    induction n with
    | zero => intro x1 x2 q h; exact absurd (show none = some q from h) (fun h => by cases h)
    | succ n ih =>
      intro x1 x2 q h hK
      replace h : zf_M_hasClause_l0_b x1 f0 g0 (zf_M_hasClause_l0 x1 f0 g0 n) x2 = some q := h
      unfold zf_M_hasClause_l0_b at h
      refine zv_ild hB zd244_2 rfl rfl ?_
      refine zv_ald hB zd244_3 rfl rfl rfl ?_
      refine zv_getf hB zd244_4 rfl rfl (fun _ _ => ?_)
      refine zv_cge hB zd244_7 rfl (fun hc1 => ?_) (fun hc1 => ?_)
      · rw [if_neg (Int.not_lt.mpr hc1)] at h
        have hq := Option.some.inj h
        subst hq
        refine zv_wk hB (L' := [.inr 1000, .inr 1000, .inr 1000]) (F' := [.inl f0]) ⟨fun (h : zv_is (.inr 1000)) => (Nat.lt_irrefl 1000 h).elim, fun (h : zv_is (.inr 1000)) => (Nat.lt_irrefl 1000 h).elim, fun (h : zv_is (.inr 1000)) => (Nat.lt_irrefl 1000 h).elim, trivial⟩ ⟨fun _ => rfl, trivial⟩ ?_
        exact hK
      · rw [if_pos hc1] at h
        refine zv_ald hB zd244_10 rfl rfl rfl ?_
        refine zv_getr hB zd244_11 rfl ?_
        refine zv_ild hB zd244_14 rfl rfl ?_
        obtain ⟨c2, h⟩ := zi_if h
        refine zv_iald hB zd244_15 rfl rfl (zi_ix_ok c2).1 (zi_ix_ok c2).2 (fun _ _ => ?_)
        refine zv_ild hB zd244_16 rfl rfl ?_
        refine zv_cne hB zd244_17 rfl (fun hc3 => ?_) (fun hc3 => ?_)
        · rw [if_neg hc3] at h
          refine zv_iincw hB zd244_22 rfl rfl ?_
          refine zv_goto hB zd244_25 rfl ?_
          exact ih _ _ q h hK
        · rw [if_pos hc3] at h
          refine zv_con hB zd244_20 rfl ?_
          have hw : 1 = o := zi_rk (Option.some.inj h) hK
          subst hw
          exact hret _ _ _ _ _ zd244_21 (by constructor <;> decide) ⟨rfl, rfl, rfl⟩
  unfold zf_M_hasClause at h
  refine zv_con hB zd244_0 rfl ?_
  refine zv_ist hB zd244_1 rfl rfl rfl ?_
  obtain ⟨q4, hq4, h⟩ := zi_bind h
  refine l0 _ _ _ q4 hq4 ?_
  rcases q4 with e5 | w6
  · replace h := zi_sl h
    show good 28 [.inr 1000, .inr 1000, .inr 1000] [] [.inl f0] [g0]
    refine zv_con hB zd244_28 rfl ?_
    have hw := Option.some.inj h
    subst hw
    exact hret _ _ _ _ _ zd244_29 (by constructor <;> decide) ⟨rfl, rfl, rfl⟩
  · exact Option.some.inj h
end
section
/-! Methods as functions, and that they do what these do. -/
/-! M_feels ()V -/
-- names: 0 StarTalesModel('arg', 0), 1 (0, 13)(0, 12, 26), 2 (0, 422)(0, 12, 0)
-- fields: ; arrays: g0 = 1, g1 = 2; out: [('g', 0)]
abbrev zy_M_feels : zNL := (3, [(0, 12)], [], [(0, 12, 26, 1), (0, 12, 0, 2)], [(1, 0, 13, 0), (2, 0, 422, 1)])
theorem zyw_M_feels : zv_wf zy_M_feels = true := by decide +kernel
theorem zye_M_feels : zv_ek2 zy_M_feels = true := by decide +kernel
def zf_M_feels_l0_b (rec : Int → (Int → Int) → Option ((Int → Int))) (x1 : Int) (g0 : (Int → Int)) : Option ((Int → Int)) := if x1 < 13 then (cond (zi_ix x1 13) (rec (zi_w (x1 + 1)) (zv_up g0 x1 0)) none) else (some g0)
def zf_M_feels_l0 : Nat → Int → (Int → Int) → Option ((Int → Int))
  | 0, _, _ => none
  | n + 1, x1, g0 => zf_M_feels_l0_b (zf_M_feels_l0 n) x1 g0
def zf_M_feels (g0 : (Int → Int)) (g1 : (Int → Int)) : Option ((Int → Int)) := (zf_M_feels_l0 zi_fu 0 g0).bind fun q3 => (some (zv_up (zv_up q3 0 (g1 128)) 1 (g1 129)))
theorem zd246_0 : decode zxm246.2.1 0 = .ok (.iconst 0, 1) := by decide +kernel
theorem zd246_1 : decode zxm246.2.1 1 = .ok (.istore_n 1, 1) := by decide +kernel
theorem zd246_2 : decode zxm246.2.1 2 = .ok (.iload_n 1, 1) := by decide +kernel
theorem zd246_3 : decode zxm246.2.1 3 = .ok (.bipush 13, 2) := by decide +kernel
theorem zd246_5 : decode zxm246.2.1 5 = .ok (.if_icmp .ge 16, 3) := by decide +kernel
theorem zd246_8 : decode zxm246.2.1 8 = .ok (.aload_n 0, 1) := by decide +kernel
theorem zd246_9 : decode zxm246.2.1 9 = .ok (.getfield 59, 3) := by decide +kernel
theorem zd246_12 : decode zxm246.2.1 12 = .ok (.iload_n 1, 1) := by decide +kernel
theorem zd246_13 : decode zxm246.2.1 13 = .ok (.iconst 0, 1) := by decide +kernel
theorem zd246_14 : decode zxm246.2.1 14 = .ok (.iastore, 1) := by decide +kernel
theorem zd246_15 : decode zxm246.2.1 15 = .ok (.iinc 1 1, 3) := by decide +kernel
theorem zd246_18 : decode zxm246.2.1 18 = .ok (.goto (-16), 3) := by decide +kernel
theorem zd246_21 : decode zxm246.2.1 21 = .ok (.aload_n 0, 1) := by decide +kernel
theorem zd246_22 : decode zxm246.2.1 22 = .ok (.getfield 59, 3) := by decide +kernel
theorem zd246_25 : decode zxm246.2.1 25 = .ok (.iconst 0, 1) := by decide +kernel
theorem zd246_26 : decode zxm246.2.1 26 = .ok (.aload_n 0, 1) := by decide +kernel
theorem zd246_27 : decode zxm246.2.1 27 = .ok (.getfield 7, 3) := by decide +kernel
theorem zd246_30 : decode zxm246.2.1 30 = .ok (.sipush 128, 3) := by decide +kernel
theorem zd246_33 : decode zxm246.2.1 33 = .ok (.iaload, 1) := by decide +kernel
theorem zd246_34 : decode zxm246.2.1 34 = .ok (.iastore, 1) := by decide +kernel
theorem zd246_35 : decode zxm246.2.1 35 = .ok (.aload_n 0, 1) := by decide +kernel
theorem zd246_36 : decode zxm246.2.1 36 = .ok (.getfield 59, 3) := by decide +kernel
theorem zd246_39 : decode zxm246.2.1 39 = .ok (.iconst 1, 1) := by decide +kernel
theorem zd246_40 : decode zxm246.2.1 40 = .ok (.aload_n 0, 1) := by decide +kernel
theorem zd246_41 : decode zxm246.2.1 41 = .ok (.getfield 7, 3) := by decide +kernel
theorem zd246_44 : decode zxm246.2.1 44 = .ok (.sipush 129, 3) := by decide +kernel
theorem zd246_47 : decode zxm246.2.1 47 = .ok (.iaload, 1) := by decide +kernel
theorem zd246_48 : decode zxm246.2.1 48 = .ok (.iastore, 1) := by decide +kernel
theorem zd246_49 : decode zxm246.2.1 49 = .ok (.return_, 1) := by decide +kernel
theorem zt_M_feels {g0 : (Int → Int)} {g1 : (Int → Int)} {o : (Int → Int)} (h : zf_M_feels g0 g1 = some o) : zv_Fn z_TB z_cl z_KX zy_M_feels zxm246 (0, 0) [.inr 0] [] [g0, g1] none [] [o, g1] := zv_meth (K := (z_KF13, z_KC13, z_KL13, z_KT13, [], [], [], none)) (FT := z_FT) (MT := z_MT) (n := 1) zxp246 (z_ks13 _ (fun _ h => List.mem_cons_of_mem _ h) _ _ _ _ (fun j r h _ => by cases h)) (fun _ _ => zs_KX_p) zyw_M_feels (fun va F G h => by obtain ⟨rfl, _⟩ := h; rfl) (fun va F G h => by obtain ⟨rfl, _⟩ := h; rfl) rfl fun good va F G hB hret hvret hP => by
  obtain ⟨rfl, rfl, rfl⟩ := hP
  have l0 : ∀ (n : Nat) (x1 : Int) (g0 : (Int → Int)) (q : (Int → Int)), zf_M_feels_l0 n x1 g0 = some q → (good 21 [.inr 0, .inr 1000] [] [] [q, g1]) → good 2 [.inr 0, .inl x1] [] [] [g0, g1] := by
    intro n
    induction n with
    | zero => intro x1 g0 q h; exact absurd (show none = some q from h) (fun h => by cases h)
    | succ n ih =>
      intro x1 g0 q h hK
      replace h : zf_M_feels_l0_b (zf_M_feels_l0 n) x1 g0 = some q := h
      unfold zf_M_feels_l0_b at h
      refine zv_ild hB zd246_2 rfl rfl ?_
      refine zv_con hB zd246_3 rfl ?_
      refine zv_cge hB zd246_5 rfl (fun hc1 => ?_) (fun hc1 => ?_)
      · rw [if_neg (Int.not_lt.mpr hc1)] at h
        have hq := Option.some.inj h
        subst hq
        refine zv_wk hB (L' := [.inr 0, .inr 1000]) (F' := []) ⟨fun _ => rfl, fun (h : zv_is (.inr 1000)) => (Nat.lt_irrefl 1000 h).elim, trivial⟩ trivial ?_
        exact hK
      · rw [if_pos hc1] at h
        refine zv_ald hB zd246_8 rfl rfl rfl ?_
        refine zv_getr hB zd246_9 rfl ?_
        refine zv_ild hB zd246_12 rfl rfl ?_
        refine zv_con hB zd246_13 rfl ?_
        obtain ⟨c2, h⟩ := zi_if h
        refine zv_iast hB zd246_14 rfl rfl (zi_ix_ok c2).1 (zi_ix_ok c2).2 ?_
        refine zv_iincw hB zd246_15 rfl rfl ?_
        refine zv_goto hB zd246_18 rfl ?_
        exact ih _ _ q h hK
  unfold zf_M_feels at h
  refine zv_con hB zd246_0 rfl ?_
  refine zv_ist hB zd246_1 rfl rfl rfl ?_
  obtain ⟨q3, hq3, h⟩ := zi_bind h
  refine l0 _ _ _ q3 hq3 ?_
  show good 21 [.inr 0, .inr 1000] [] [] [q3, g1]
  refine zv_ald hB zd246_21 rfl rfl rfl ?_
  refine zv_getr hB zd246_22 rfl ?_
  refine zv_con hB zd246_25 rfl ?_
  refine zv_ald hB zd246_26 rfl rfl rfl ?_
  refine zv_getr hB zd246_27 rfl ?_
  refine zv_con hB zd246_30 rfl ?_
  refine zv_iald hB zd246_33 rfl rfl (by decide) (by decide) (fun _ _ => ?_)
  refine zv_iast hB zd246_34 rfl rfl (by decide) (by decide) ?_
  refine zv_ald hB zd246_35 rfl rfl rfl ?_
  refine zv_getr hB zd246_36 rfl ?_
  refine zv_con hB zd246_39 rfl ?_
  refine zv_ald hB zd246_40 rfl rfl rfl ?_
  refine zv_getr hB zd246_41 rfl ?_
  refine zv_con hB zd246_44 rfl ?_
  refine zv_iald hB zd246_47 rfl rfl (by decide) (by decide) (fun _ _ => ?_)
  refine zv_iast hB zd246_48 rfl rfl (by decide) (by decide) ?_
  have hw := Option.some.inj h
  subst hw
  exact hvret _ _ _ _ zd246_49 trivial ⟨rfl, rfl, rfl⟩
/-! M_feelsStar (I)V -/
-- names: 0 StarTalesModel('arg', 0), 1 (0, 13)(0, 12, 26), 2 (0, 422)(0, 12, 0)
-- fields: ; arrays: g0 = 1, g1 = 2; out: [('g', 0)]
abbrev zy_M_feelsStar : zNL := (3, [(0, 12)], [], [(0, 12, 26, 1), (0, 12, 0, 2)], [(1, 0, 13, 0), (2, 0, 422, 1)])
theorem zyw_M_feelsStar : zv_wf zy_M_feelsStar = true := by decide +kernel
theorem zye_M_feelsStar : zv_ek2 zy_M_feelsStar = true := by decide +kernel
def zf_M_feelsStar (x1 : Int) (g0 : (Int → Int)) (g1 : (Int → Int)) : Option ((Int → Int)) := (zf_M_feels g0 g1).bind fun r1 => (cond (zi_ix (zi_w (48 + x1)) 422) (cond (zi_ix (zi_w (24 + x1)) 422) ((zf_M_standsAt x1 g1).bind fun r4 => (some (zv_up (zv_up (zv_up (zv_up r1 2 x1) 3 (g1 (zi_w (48 + x1)))) 4 (g1 (zi_w (24 + x1)))) 5 r4))) none) none)
theorem zd245_0 : decode zxm245.2.1 0 = .ok (.aload_n 0, 1) := by decide +kernel
theorem zd245_1 : decode zxm245.2.1 1 = .ok (.invokevirtual 278, 3) := by decide +kernel
theorem zd245_4 : decode zxm245.2.1 4 = .ok (.aload_n 0, 1) := by decide +kernel
theorem zd245_5 : decode zxm245.2.1 5 = .ok (.getfield 59, 3) := by decide +kernel
theorem zd245_8 : decode zxm245.2.1 8 = .ok (.iconst 2, 1) := by decide +kernel
theorem zd245_9 : decode zxm245.2.1 9 = .ok (.iload_n 1, 1) := by decide +kernel
theorem zd245_10 : decode zxm245.2.1 10 = .ok (.iastore, 1) := by decide +kernel
theorem zd245_11 : decode zxm245.2.1 11 = .ok (.aload_n 0, 1) := by decide +kernel
theorem zd245_12 : decode zxm245.2.1 12 = .ok (.getfield 59, 3) := by decide +kernel
theorem zd245_15 : decode zxm245.2.1 15 = .ok (.iconst 3, 1) := by decide +kernel
theorem zd245_16 : decode zxm245.2.1 16 = .ok (.aload_n 0, 1) := by decide +kernel
theorem zd245_17 : decode zxm245.2.1 17 = .ok (.getfield 7, 3) := by decide +kernel
theorem zd245_20 : decode zxm245.2.1 20 = .ok (.bipush 48, 2) := by decide +kernel
theorem zd245_22 : decode zxm245.2.1 22 = .ok (.iload_n 1, 1) := by decide +kernel
theorem zd245_23 : decode zxm245.2.1 23 = .ok (.iadd, 1) := by decide +kernel
theorem zd245_24 : decode zxm245.2.1 24 = .ok (.iaload, 1) := by decide +kernel
theorem zd245_25 : decode zxm245.2.1 25 = .ok (.iastore, 1) := by decide +kernel
theorem zd245_26 : decode zxm245.2.1 26 = .ok (.aload_n 0, 1) := by decide +kernel
theorem zd245_27 : decode zxm245.2.1 27 = .ok (.getfield 59, 3) := by decide +kernel
theorem zd245_30 : decode zxm245.2.1 30 = .ok (.iconst 4, 1) := by decide +kernel
theorem zd245_31 : decode zxm245.2.1 31 = .ok (.aload_n 0, 1) := by decide +kernel
theorem zd245_32 : decode zxm245.2.1 32 = .ok (.getfield 7, 3) := by decide +kernel
theorem zd245_35 : decode zxm245.2.1 35 = .ok (.bipush 24, 2) := by decide +kernel
theorem zd245_37 : decode zxm245.2.1 37 = .ok (.iload_n 1, 1) := by decide +kernel
theorem zd245_38 : decode zxm245.2.1 38 = .ok (.iadd, 1) := by decide +kernel
theorem zd245_39 : decode zxm245.2.1 39 = .ok (.iaload, 1) := by decide +kernel
theorem zd245_40 : decode zxm245.2.1 40 = .ok (.iastore, 1) := by decide +kernel
theorem zd245_41 : decode zxm245.2.1 41 = .ok (.aload_n 0, 1) := by decide +kernel
theorem zd245_42 : decode zxm245.2.1 42 = .ok (.getfield 59, 3) := by decide +kernel
theorem zd245_45 : decode zxm245.2.1 45 = .ok (.iconst 5, 1) := by decide +kernel
theorem zd245_46 : decode zxm245.2.1 46 = .ok (.aload_n 0, 1) := by decide +kernel
theorem zd245_47 : decode zxm245.2.1 47 = .ok (.iload_n 1, 1) := by decide +kernel
theorem zd245_48 : decode zxm245.2.1 48 = .ok (.invokevirtual 281, 3) := by decide +kernel
theorem zd245_51 : decode zxm245.2.1 51 = .ok (.iastore, 1) := by decide +kernel
theorem zd245_52 : decode zxm245.2.1 52 = .ok (.return_, 1) := by decide +kernel
theorem zt_M_feelsStar {x1 : Int} {g0 : (Int → Int)} {g1 : (Int → Int)} {o : (Int → Int)} (h : zf_M_feelsStar x1 g0 g1 = some o) : zv_Fn z_TB z_cl z_KX zy_M_feelsStar zxm245 (1, 60) [.inr 0, .inl x1] [] [g0, g1] none [] [o, g1] := zv_meth (K := (z_KF13, z_KC13, z_KL13, z_KT13, [], [], [], none)) (FT := z_FT) (MT := z_MT) (n := 2) zxp245 (z_ks13 _ (fun _ h => List.mem_cons_of_mem _ h) _ _ _ _ (fun j r h _ => by cases h)) (fun _ _ => zs_KX_p) zyw_M_feelsStar (fun va F G h => by obtain ⟨rfl, _⟩ := h; rfl) (fun va F G h => by obtain ⟨rfl, _⟩ := h; rfl) rfl fun good va F G hB hret hvret hP => by
  obtain ⟨rfl, rfl, rfl⟩ := hP
  unfold zf_M_feelsStar at h
  refine zv_ald hB zd245_0 rfl rfl rfl ?_
  obtain ⟨r1, hr1, h⟩ := zi_bind h
  refine zv_cv hB (zv_emq (va2 := [.inr 0]) (F := []) (F' := []) (G := [g0, g1]) (G' := [r1, g1]) (ρ := [0, 1, 2]) (φ := []) (ψ := [0, 1]) [] [some 0, some 1] zyw_M_feels zyw_M_feelsStar zye_M_feelsStar (by decide +kernel) (zt_M_feels hr1) trivial ⟨rfl, rfl, trivial⟩ rfl rfl rfl rfl rfl rfl rfl) zd245_1 zxt246 rfl (by decide) (by decide) rfl ?_
  refine zv_ald hB zd245_4 rfl rfl rfl ?_
  refine zv_getr hB zd245_5 rfl ?_
  refine zv_con hB zd245_8 rfl ?_
  refine zv_ild hB zd245_9 rfl rfl ?_
  refine zv_iast hB zd245_10 rfl rfl (by decide) (by decide) ?_
  refine zv_ald hB zd245_11 rfl rfl rfl ?_
  refine zv_getr hB zd245_12 rfl ?_
  refine zv_con hB zd245_15 rfl ?_
  refine zv_ald hB zd245_16 rfl rfl rfl ?_
  refine zv_getr hB zd245_17 rfl ?_
  refine zv_con hB zd245_20 rfl ?_
  refine zv_ild hB zd245_22 rfl rfl ?_
  refine zv_addw hB zd245_23 ?_
  obtain ⟨c2, h⟩ := zi_if h
  refine zv_iald hB zd245_24 rfl rfl (zi_ix_ok c2).1 (zi_ix_ok c2).2 (fun _ _ => ?_)
  refine zv_iast hB zd245_25 rfl rfl (by decide) (by decide) ?_
  refine zv_ald hB zd245_26 rfl rfl rfl ?_
  refine zv_getr hB zd245_27 rfl ?_
  refine zv_con hB zd245_30 rfl ?_
  refine zv_ald hB zd245_31 rfl rfl rfl ?_
  refine zv_getr hB zd245_32 rfl ?_
  refine zv_con hB zd245_35 rfl ?_
  refine zv_ild hB zd245_37 rfl rfl ?_
  refine zv_addw hB zd245_38 ?_
  obtain ⟨c3, h⟩ := zi_if h
  refine zv_iald hB zd245_39 rfl rfl (zi_ix_ok c3).1 (zi_ix_ok c3).2 (fun _ _ => ?_)
  refine zv_iast hB zd245_40 rfl rfl (by decide) (by decide) ?_
  refine zv_ald hB zd245_41 rfl rfl rfl ?_
  refine zv_getr hB zd245_42 rfl ?_
  refine zv_con hB zd245_45 rfl ?_
  refine zv_ald hB zd245_46 rfl rfl rfl ?_
  refine zv_ild hB zd245_47 rfl rfl ?_
  obtain ⟨r4, hr4, h⟩ := zi_bind h
  refine zv_cv hB (zv_emq (va2 := [.inr 0, .inl x1]) (F := []) (F' := []) (G := [(zv_up (zv_up (zv_up r1 2 x1) 3 (g1 (zi_w (48 + x1)))) 4 (g1 (zi_w (24 + x1)))), g1]) (G' := [(zv_up (zv_up (zv_up r1 2 x1) 3 (g1 (zi_w (48 + x1)))) 4 (g1 (zi_w (24 + x1)))), g1]) (ρ := [0, 2]) (φ := []) (ψ := [1]) [] [none, some 0] zyw_M_standsAt zyw_M_feelsStar zye_M_feelsStar (by decide +kernel) (zt_M_standsAt hr4) trivial ⟨rfl, trivial⟩ rfl rfl rfl rfl rfl rfl rfl) zd245_48 zxt238 rfl (by decide) (by decide) rfl ?_
  refine zv_iast hB zd245_51 rfl rfl (by decide) (by decide) ?_
  have hw := Option.some.inj h
  subst hw
  exact hvret _ _ _ _ zd245_52 trivial ⟨rfl, rfl, rfl⟩
/-! M_way (IIII)I -/
-- names: 
-- fields: ; arrays: ; out: [('ret', None)]
abbrev zy_M_way : zNL := (0, [], [], [], [])
theorem zyw_M_way : zv_wf zy_M_way = true := by decide +kernel
theorem zye_M_way : zv_ek2 zy_M_way = true := by decide +kernel
def zf_M_way (x0 : Int) (x1 : Int) (x2 : Int) (x3 : Int) : Option (Int) := (zf_M_toRight x0 x2).bind fun r1 => ((zf_M_size r1).bind fun r2 => ((zf_M_size (zi_w (x1 - x3))).bind fun r3 => (some (zi_w (r2 + r3)))))
theorem zd247_0 : decode zxm247.2.1 0 = .ok (.iload_n 0, 1) := by decide +kernel
theorem zd247_1 : decode zxm247.2.1 1 = .ok (.iload_n 2, 1) := by decide +kernel
theorem zd247_2 : decode zxm247.2.1 2 = .ok (.invokestatic 142, 3) := by decide +kernel
theorem zd247_5 : decode zxm247.2.1 5 = .ok (.invokestatic 146, 3) := by decide +kernel
theorem zd247_8 : decode zxm247.2.1 8 = .ok (.iload_n 1, 1) := by decide +kernel
theorem zd247_9 : decode zxm247.2.1 9 = .ok (.iload_n 3, 1) := by decide +kernel
theorem zd247_10 : decode zxm247.2.1 10 = .ok (.isub, 1) := by decide +kernel
theorem zd247_11 : decode zxm247.2.1 11 = .ok (.invokestatic 146, 3) := by decide +kernel
theorem zd247_14 : decode zxm247.2.1 14 = .ok (.iadd, 1) := by decide +kernel
theorem zd247_15 : decode zxm247.2.1 15 = .ok (.ireturn, 1) := by decide +kernel
theorem zt_M_way {x0 : Int} {x1 : Int} {x2 : Int} {x3 : Int} {o : Int} (h : zf_M_way x0 x1 x2 x3 = some o) : zv_Fn z_TB z_cl z_KX zy_M_way zxm247 (1, 60) [.inl x0, .inl x1, .inl x2, .inl x3] [] [] (some o) [] [] := zv_meth (K := (z_KF13, z_KC13, z_KL13, z_KT13, [], [], [], none)) (FT := z_FT) (MT := z_MT) (n := 4) zxp247 (z_ks13 _ (fun _ h => List.mem_cons_of_mem _ h) _ _ _ _ (fun j r h _ => by cases h)) (fun _ _ => zs_KX_p) zyw_M_way (fun va F G h => by obtain ⟨rfl, _⟩ := h; rfl) (fun va F G h => by obtain ⟨rfl, _⟩ := h; rfl) rfl fun good va F G hB hret hvret hP => by
  obtain ⟨rfl, rfl, rfl⟩ := hP
  unfold zf_M_way at h
  refine zv_ild hB zd247_0 rfl rfl ?_
  refine zv_ild hB zd247_1 rfl rfl ?_
  obtain ⟨r1, hr1, h⟩ := zi_bind h
  refine zv_cs hB (zv_emq (va2 := [.inl x0, .inl x2]) (F := []) (F' := []) (G := []) (G' := []) (ρ := []) (φ := []) (ψ := []) [] [] zyw_M_toRight zyw_M_way zye_M_way (by decide +kernel) (zt_M_toRight hr1) trivial trivial rfl rfl rfl rfl rfl rfl rfl) zd247_2 zxt242 rfl (by decide) (by decide) rfl ?_
  obtain ⟨r2, hr2, h⟩ := zi_bind h
  refine zv_cs hB (zv_emq (va2 := [.inl r1]) (F := []) (F' := []) (G := []) (G' := []) (ρ := []) (φ := []) (ψ := []) [] [] zyw_M_size zyw_M_way zye_M_way (by decide +kernel) (zt_M_size hr2) trivial trivial rfl rfl rfl rfl rfl rfl rfl) zd247_5 zxt243 rfl (by decide) (by decide) rfl ?_
  refine zv_ild hB zd247_8 rfl rfl ?_
  refine zv_ild hB zd247_9 rfl rfl ?_
  refine zv_subw hB zd247_10 ?_
  obtain ⟨r3, hr3, h⟩ := zi_bind h
  refine zv_cs hB (zv_emq (va2 := [.inl (zi_w (x1 - x3))]) (F := []) (F' := []) (G := []) (G' := []) (ρ := []) (φ := []) (ψ := []) [] [] zyw_M_size zyw_M_way zye_M_way (by decide +kernel) (zt_M_size hr3) trivial trivial rfl rfl rfl rfl rfl rfl rfl) zd247_11 zxt243 rfl (by decide) (by decide) rfl ?_
  refine zv_addw hB zd247_14 ?_
  have hw := Option.some.inj h
  subst hw
  exact hret _ _ _ _ _ zd247_15 (by trivial) ⟨rfl, rfl, rfl⟩
/-! M_reckon (III)I -/
-- names: 
-- fields: ; arrays: ; out: [('ret', None)]
abbrev zy_M_reckon : zNL := (0, [], [], [], [])
theorem zyw_M_reckon : zv_wf zy_M_reckon = true := by decide +kernel
theorem zye_M_reckon : zv_ek2 zy_M_reckon = true := by decide +kernel
def zf_M_reckon (x0 : Int) (x1 : Int) (x2 : Int) : Option (Int) := if x0 = 2 then (some (zi_w (x1 + x2))) else (if x0 = 3 then (some (zi_w (x1 - x2))) else (if x0 = 4 then (some (zi_w (x1 * x2))) else (if x0 = 5 then (cond (zi_ne x2) (some (zi_div x1 x2)) none) else (if x0 = 6 then (cond (zi_ne x2) (some (zi_rem x1 x2)) none) else (if x0 = 7 then (if x1 < x2 then (some 1) else (some 0)) else (if x0 = 8 then (if x2 < x1 then (some 1) else (some 0)) else (if x1 = x2 then (some 1) else (some 0))))))))
theorem zd250_0 : decode zxm250.2.1 0 = .ok (.iload_n 0, 1) := by decide +kernel
theorem zd250_1 : decode zxm250.2.1 1 = .ok (.tableswitch 85 2 8 #[43, 47, 51, 55, 59, 63, 74], 43) := by decide +kernel
theorem zd250_44 : decode zxm250.2.1 44 = .ok (.iload_n 1, 1) := by decide +kernel
theorem zd250_45 : decode zxm250.2.1 45 = .ok (.iload_n 2, 1) := by decide +kernel
theorem zd250_46 : decode zxm250.2.1 46 = .ok (.iadd, 1) := by decide +kernel
theorem zd250_47 : decode zxm250.2.1 47 = .ok (.ireturn, 1) := by decide +kernel
theorem zd250_48 : decode zxm250.2.1 48 = .ok (.iload_n 1, 1) := by decide +kernel
theorem zd250_49 : decode zxm250.2.1 49 = .ok (.iload_n 2, 1) := by decide +kernel
theorem zd250_50 : decode zxm250.2.1 50 = .ok (.isub, 1) := by decide +kernel
theorem zd250_51 : decode zxm250.2.1 51 = .ok (.ireturn, 1) := by decide +kernel
theorem zd250_52 : decode zxm250.2.1 52 = .ok (.iload_n 1, 1) := by decide +kernel
theorem zd250_53 : decode zxm250.2.1 53 = .ok (.iload_n 2, 1) := by decide +kernel
theorem zd250_54 : decode zxm250.2.1 54 = .ok (.imul, 1) := by decide +kernel
theorem zd250_55 : decode zxm250.2.1 55 = .ok (.ireturn, 1) := by decide +kernel
theorem zd250_56 : decode zxm250.2.1 56 = .ok (.iload_n 1, 1) := by decide +kernel
theorem zd250_57 : decode zxm250.2.1 57 = .ok (.iload_n 2, 1) := by decide +kernel
theorem zd250_58 : decode zxm250.2.1 58 = .ok (.idiv, 1) := by decide +kernel
theorem zd250_59 : decode zxm250.2.1 59 = .ok (.ireturn, 1) := by decide +kernel
theorem zd250_60 : decode zxm250.2.1 60 = .ok (.iload_n 1, 1) := by decide +kernel
theorem zd250_61 : decode zxm250.2.1 61 = .ok (.iload_n 2, 1) := by decide +kernel
theorem zd250_62 : decode zxm250.2.1 62 = .ok (.irem, 1) := by decide +kernel
theorem zd250_63 : decode zxm250.2.1 63 = .ok (.ireturn, 1) := by decide +kernel
theorem zd250_64 : decode zxm250.2.1 64 = .ok (.iload_n 1, 1) := by decide +kernel
theorem zd250_65 : decode zxm250.2.1 65 = .ok (.iload_n 2, 1) := by decide +kernel
theorem zd250_66 : decode zxm250.2.1 66 = .ok (.if_icmp .ge 7, 3) := by decide +kernel
theorem zd250_69 : decode zxm250.2.1 69 = .ok (.iconst 1, 1) := by decide +kernel
theorem zd250_70 : decode zxm250.2.1 70 = .ok (.goto 4, 3) := by decide +kernel
theorem zd250_73 : decode zxm250.2.1 73 = .ok (.iconst 0, 1) := by decide +kernel
theorem zd250_74 : decode zxm250.2.1 74 = .ok (.ireturn, 1) := by decide +kernel
theorem zd250_75 : decode zxm250.2.1 75 = .ok (.iload_n 1, 1) := by decide +kernel
theorem zd250_76 : decode zxm250.2.1 76 = .ok (.iload_n 2, 1) := by decide +kernel
theorem zd250_77 : decode zxm250.2.1 77 = .ok (.if_icmp .le 7, 3) := by decide +kernel
theorem zd250_80 : decode zxm250.2.1 80 = .ok (.iconst 1, 1) := by decide +kernel
theorem zd250_81 : decode zxm250.2.1 81 = .ok (.goto 4, 3) := by decide +kernel
theorem zd250_84 : decode zxm250.2.1 84 = .ok (.iconst 0, 1) := by decide +kernel
theorem zd250_85 : decode zxm250.2.1 85 = .ok (.ireturn, 1) := by decide +kernel
theorem zd250_86 : decode zxm250.2.1 86 = .ok (.iload_n 1, 1) := by decide +kernel
theorem zd250_87 : decode zxm250.2.1 87 = .ok (.iload_n 2, 1) := by decide +kernel
theorem zd250_88 : decode zxm250.2.1 88 = .ok (.if_icmp .ne 7, 3) := by decide +kernel
theorem zd250_91 : decode zxm250.2.1 91 = .ok (.iconst 1, 1) := by decide +kernel
theorem zd250_92 : decode zxm250.2.1 92 = .ok (.goto 4, 3) := by decide +kernel
theorem zd250_95 : decode zxm250.2.1 95 = .ok (.iconst 0, 1) := by decide +kernel
theorem zd250_96 : decode zxm250.2.1 96 = .ok (.ireturn, 1) := by decide +kernel
theorem zt_M_reckon {x0 : Int} {x1 : Int} {x2 : Int} {o : Int} (h : zf_M_reckon x0 x1 x2 = some o) : zv_Fn z_TB z_cl z_KX zy_M_reckon zxm250 (0, 0) [.inl x0, .inl x1, .inl x2] [] [] (some o) [] [] := zv_meth (K := (z_KF13, z_KC13, z_KL13, z_KT13, [], [], [], none)) (FT := z_FT) (MT := z_MT) (n := 3) zxp250 (z_ks13 _ (fun _ h => List.mem_cons_of_mem _ h) _ _ _ _ (fun j r h _ => by cases h)) (fun _ _ => zs_KX_p) zyw_M_reckon (fun va F G h => by obtain ⟨rfl, _⟩ := h; rfl) (fun va F G h => by obtain ⟨rfl, _⟩ := h; rfl) rfl fun good va F G hB hret hvret hP => by
  obtain ⟨rfl, rfl, rfl⟩ := hP
  unfold zf_M_reckon at h
  refine zv_ild hB zd250_0 rfl rfl ?_
  refine zv_tsw hB zd250_1 rfl ?_
  refine ⟨fun hc1 => ⟨_, rfl, ?_⟩, fun hc1 => ?_⟩
  · replace hc1 : x0 = 2 := hc1
    rw [if_pos hc1] at h
    refine zv_ild hB zd250_44 rfl rfl ?_
    refine zv_ild hB zd250_45 rfl rfl ?_
    refine zv_addw hB zd250_46 ?_
    have hw := Option.some.inj h
    subst hw
    exact hret _ _ _ _ _ zd250_47 (by trivial) ⟨rfl, rfl, rfl⟩
  replace hc1 : x0 ≠ 2 := hc1
  rw [if_neg hc1] at h
  refine ⟨fun hc2 => ⟨_, rfl, ?_⟩, fun hc2 => ?_⟩
  · replace hc2 : x0 = 3 := hc2
    rw [if_pos hc2] at h
    refine zv_ild hB zd250_48 rfl rfl ?_
    refine zv_ild hB zd250_49 rfl rfl ?_
    refine zv_subw hB zd250_50 ?_
    have hw := Option.some.inj h
    subst hw
    exact hret _ _ _ _ _ zd250_51 (by trivial) ⟨rfl, rfl, rfl⟩
  replace hc2 : x0 ≠ 3 := hc2
  rw [if_neg hc2] at h
  refine ⟨fun hc3 => ⟨_, rfl, ?_⟩, fun hc3 => ?_⟩
  · replace hc3 : x0 = 4 := hc3
    rw [if_pos hc3] at h
    refine zv_ild hB zd250_52 rfl rfl ?_
    refine zv_ild hB zd250_53 rfl rfl ?_
    refine zv_mulw hB zd250_54 ?_
    have hw := Option.some.inj h
    subst hw
    exact hret _ _ _ _ _ zd250_55 (by trivial) ⟨rfl, rfl, rfl⟩
  replace hc3 : x0 ≠ 4 := hc3
  rw [if_neg hc3] at h
  refine ⟨fun hc4 => ⟨_, rfl, ?_⟩, fun hc4 => ?_⟩
  · replace hc4 : x0 = 5 := hc4
    rw [if_pos hc4] at h
    refine zv_ild hB zd250_56 rfl rfl ?_
    refine zv_ild hB zd250_57 rfl rfl ?_
    obtain ⟨c5, h⟩ := zi_if h
    refine zv_divw hB zd250_58 (zi_ne_ok c5) ?_
    have hw := Option.some.inj h
    subst hw
    exact hret _ _ _ _ _ zd250_59 (by trivial) ⟨rfl, rfl, rfl⟩
  replace hc4 : x0 ≠ 5 := hc4
  rw [if_neg hc4] at h
  refine ⟨fun hc6 => ⟨_, rfl, ?_⟩, fun hc6 => ?_⟩
  · replace hc6 : x0 = 6 := hc6
    rw [if_pos hc6] at h
    refine zv_ild hB zd250_60 rfl rfl ?_
    refine zv_ild hB zd250_61 rfl rfl ?_
    obtain ⟨c7, h⟩ := zi_if h
    refine zv_remw hB zd250_62 (zi_ne_ok c7) ?_
    have hw := Option.some.inj h
    subst hw
    exact hret _ _ _ _ _ zd250_63 (by trivial) ⟨rfl, rfl, rfl⟩
  replace hc6 : x0 ≠ 6 := hc6
  rw [if_neg hc6] at h
  refine ⟨fun hc8 => ⟨_, rfl, ?_⟩, fun hc8 => ?_⟩
  · replace hc8 : x0 = 7 := hc8
    rw [if_pos hc8] at h
    refine zv_ild hB zd250_64 rfl rfl ?_
    refine zv_ild hB zd250_65 rfl rfl ?_
    refine zv_cge hB zd250_66 rfl (fun hc9 => ?_) (fun hc9 => ?_)
    · rw [if_neg (Int.not_lt.mpr hc9)] at h
      refine zv_con hB zd250_73 rfl ?_
      have hw := Option.some.inj h
      subst hw
      exact hret _ _ _ _ _ zd250_74 (by trivial) ⟨rfl, rfl, rfl⟩
    · rw [if_pos hc9] at h
      refine zv_con hB zd250_69 rfl ?_
      refine zv_goto hB zd250_70 rfl ?_
      have hw := Option.some.inj h
      subst hw
      exact hret _ _ _ _ _ zd250_74 (by trivial) ⟨rfl, rfl, rfl⟩
  replace hc8 : x0 ≠ 7 := hc8
  rw [if_neg hc8] at h
  refine ⟨fun hc10 => ⟨_, rfl, ?_⟩, fun hc10 => ?_⟩
  · replace hc10 : x0 = 8 := hc10
    rw [if_pos hc10] at h
    refine zv_ild hB zd250_75 rfl rfl ?_
    refine zv_ild hB zd250_76 rfl rfl ?_
    refine zv_cle hB zd250_77 rfl (fun hc11 => ?_) (fun hc11 => ?_)
    · rw [if_neg (Int.not_lt.mpr hc11)] at h
      refine zv_con hB zd250_84 rfl ?_
      have hw := Option.some.inj h
      subst hw
      exact hret _ _ _ _ _ zd250_85 (by trivial) ⟨rfl, rfl, rfl⟩
    · rw [if_pos hc11] at h
      refine zv_con hB zd250_80 rfl ?_
      refine zv_goto hB zd250_81 rfl ?_
      have hw := Option.some.inj h
      subst hw
      exact hret _ _ _ _ _ zd250_85 (by trivial) ⟨rfl, rfl, rfl⟩
  replace hc10 : x0 ≠ 8 := hc10
  rw [if_neg hc10] at h
  refine ⟨_, rfl, ?_⟩
  refine zv_ild hB zd250_86 rfl rfl ?_
  refine zv_ild hB zd250_87 rfl rfl ?_
  refine zv_cne hB zd250_88 rfl (fun hc12 => ?_) (fun hc12 => ?_)
  · rw [if_neg hc12] at h
    refine zv_con hB zd250_95 rfl ?_
    have hw := Option.some.inj h
    subst hw
    exact hret _ _ _ _ _ zd250_96 (by trivial) ⟨rfl, rfl, rfl⟩
  · rw [if_pos hc12] at h
    refine zv_con hB zd250_91 rfl ?_
    refine zv_goto hB zd250_92 rfl ?_
    have hw := Option.some.inj h
    subst hw
    exact hret _ _ _ _ _ zd250_96 (by trivial) ⟨rfl, rfl, rfl⟩
/-! M_comesTo (II)I -/
-- names: 0 StarTalesModel('arg', 0), 1 (0, 220)(0, 12, 20), 2 (0, 220)(0, 12, 25), 3 (0, 13)(0, 12, 26)
-- fields: ; arrays: g0 = 1, g1 = 2, g2 = 3; out: [('ret', None), ('g', 1)]
abbrev zy_M_comesTo : zNL := (4, [(0, 12)], [], [(0, 12, 20, 1), (0, 12, 25, 2), (0, 12, 26, 3)], [(1, 0, 220, 0), (2, 0, 220, 1), (3, 0, 13, 2)])
theorem zyw_M_comesTo : zv_wf zy_M_comesTo = true := by decide +kernel
theorem zye_M_comesTo : zv_ek2 zy_M_comesTo = true := by decide +kernel
def zf_M_comesTo_l0_b (x2 : Int) (x4 : Int) (g0 : (Int → Int)) (g2 : (Int → Int)) (rec : Int → Int → (Int → Int) → Option ((((Int → Int)) ⊕ (Int × (Int → Int))))) (x3 : Int) (x5 : Int) (g1 : (Int → Int)) : Option ((((Int → Int)) ⊕ (Int × (Int → Int)))) := if x5 < x2 then (cond (zi_ix x5 220) (if (zi_div (g0 x5) 1048576) = 0 then (cond (zi_ix x3 220) (rec (zi_w (x3 + 1)) (zi_w (x5 + 1)) (zv_up g1 x3 (zi_rem (g0 x5) 1048576))) none) else (if (zi_div (g0 x5) 1048576) = 1 then (cond (zi_ix (zi_rem (g0 x5) 1048576) 13) (cond (zi_ix x3 220) (rec (zi_w (x3 + 1)) (zi_w (x5 + 1)) (zv_up g1 x3 (g2 (zi_rem (g0 x5) 1048576)))) none) none) else (if (zi_div (g0 x5) 1048576) = 10 then (cond (zi_ix (zi_w (x3 - 1)) 220) (rec x3 (zi_w (x5 + 1)) (zv_up g1 (zi_w (x3 - 1)) (zi_w (1 - (g1 (zi_w (x3 - 1))))))) none) else (if (zi_div (g0 x5) 1048576) = 11 then (cond (zi_ix (zi_w (x3 - 1)) 220) (if (g1 (zi_w (x3 - 1))) = 0 then (rec x3 (zi_w (x4 + (zi_rem (g0 x5) 1048576))) g1) else (rec (zi_w (x3 - 1)) (zi_w (x5 + 1)) g1)) none) else (if (zi_div (g0 x5) 1048576) = 12 then (cond (zi_ix (zi_w (x3 - 1)) 220) (if (g1 (zi_w (x3 - 1))) = 1 then (rec x3 (zi_w (x4 + (zi_rem (g0 x5) 1048576))) g1) else (rec (zi_w (x3 - 1)) (zi_w (x5 + 1)) g1)) none) else (if (zi_div (g0 x5) 1048576) = 5 then (cond (zi_ix (zi_w (x3 - 1)) 220) (if (g1 (zi_w (x3 - 1))) = 0 then (some (.inr (0, g1))) else (cond (zi_ix (zi_w ((zi_w (x3 - 1)) - 1)) 220) ((zf_M_reckon (zi_div (g0 x5) 1048576) (g1 (zi_w ((zi_w (x3 - 1)) - 1))) (g1 (zi_w (x3 - 1)))).bind fun r17 => (rec (zi_w (x3 - 1)) (zi_w (x5 + 1)) (zv_up g1 (zi_w ((zi_w (x3 - 1)) - 1)) r17))) none)) none) else (if (zi_div (g0 x5) 1048576) = 6 then (cond (zi_ix (zi_w (x3 - 1)) 220) (if (g1 (zi_w (x3 - 1))) = 0 then (some (.inr (0, g1))) else (cond (zi_ix (zi_w ((zi_w (x3 - 1)) - 1)) 220) ((zf_M_reckon (zi_div (g0 x5) 1048576) (g1 (zi_w ((zi_w (x3 - 1)) - 1))) (g1 (zi_w (x3 - 1)))).bind fun r25 => (rec (zi_w (x3 - 1)) (zi_w (x5 + 1)) (zv_up g1 (zi_w ((zi_w (x3 - 1)) - 1)) r25))) none)) none) else (cond (zi_ix (zi_w ((zi_w (x3 - 1)) - 1)) 220) (cond (zi_ix (zi_w (x3 - 1)) 220) ((zf_M_reckon (zi_div (g0 x5) 1048576) (g1 (zi_w ((zi_w (x3 - 1)) - 1))) (g1 (zi_w (x3 - 1)))).bind fun r21 => (rec (zi_w (x3 - 1)) (zi_w (x5 + 1)) (zv_up g1 (zi_w ((zi_w (x3 - 1)) - 1)) r21))) none) none)))))))) none) else (some (.inl g1))
def zf_M_comesTo_l0 (x2 : Int) (x4 : Int) (g0 : (Int → Int)) (g2 : (Int → Int)) : Nat → Int → Int → (Int → Int) → Option ((((Int → Int)) ⊕ (Int × (Int → Int))))
  | 0, _, _, _ => none
  | n + 1, x3, x5, g1 => zf_M_comesTo_l0_b x2 x4 g0 g2 (zf_M_comesTo_l0 x2 x4 g0 g2 n) x3 x5 g1
def zf_M_comesTo (x1 : Int) (x2 : Int) (g0 : (Int → Int)) (g1 : (Int → Int)) (g2 : (Int → Int)) : Option (Int × (Int → Int)) := (zf_M_comesTo_l0 x2 (zi_w (220 * (zi_div x1 220))) g0 g2 zi_fu 0 x1 g1).bind fun q33 => Sum.elim (fun e34 => (some ((e34 0), e34))) (fun w35 => some w35) q33
theorem zd249_0 : decode zxm249.2.1 0 = .ok (.iconst 0, 1) := by decide +kernel
theorem zd249_1 : decode zxm249.2.1 1 = .ok (.istore_n 3, 1) := by decide +kernel
theorem zd249_2 : decode zxm249.2.1 2 = .ok (.sipush 220, 3) := by decide +kernel
theorem zd249_5 : decode zxm249.2.1 5 = .ok (.iload_n 1, 1) := by decide +kernel
theorem zd249_6 : decode zxm249.2.1 6 = .ok (.sipush 220, 3) := by decide +kernel
theorem zd249_9 : decode zxm249.2.1 9 = .ok (.idiv, 1) := by decide +kernel
theorem zd249_10 : decode zxm249.2.1 10 = .ok (.imul, 1) := by decide +kernel
theorem zd249_11 : decode zxm249.2.1 11 = .ok (.istore 4, 2) := by decide +kernel
theorem zd249_13 : decode zxm249.2.1 13 = .ok (.iload_n 1, 1) := by decide +kernel
theorem zd249_14 : decode zxm249.2.1 14 = .ok (.istore 5, 2) := by decide +kernel
theorem zd249_16 : decode zxm249.2.1 16 = .ok (.iload 5, 2) := by decide +kernel
theorem zd249_18 : decode zxm249.2.1 18 = .ok (.iload_n 2, 1) := by decide +kernel
theorem zd249_19 : decode zxm249.2.1 19 = .ok (.if_icmp .ge 214, 3) := by decide +kernel
theorem zd249_22 : decode zxm249.2.1 22 = .ok (.aload_n 0, 1) := by decide +kernel
theorem zd249_23 : decode zxm249.2.1 23 = .ok (.getfield 41, 3) := by decide +kernel
theorem zd249_26 : decode zxm249.2.1 26 = .ok (.iload 5, 2) := by decide +kernel
theorem zd249_28 : decode zxm249.2.1 28 = .ok (.iaload, 1) := by decide +kernel
theorem zd249_29 : decode zxm249.2.1 29 = .ok (.ldc 202, 2) := by decide +kernel
theorem zd249_31 : decode zxm249.2.1 31 = .ok (.idiv, 1) := by decide +kernel
theorem zd249_32 : decode zxm249.2.1 32 = .ok (.istore 6, 2) := by decide +kernel
theorem zd249_34 : decode zxm249.2.1 34 = .ok (.aload_n 0, 1) := by decide +kernel
theorem zd249_35 : decode zxm249.2.1 35 = .ok (.getfield 41, 3) := by decide +kernel
theorem zd249_38 : decode zxm249.2.1 38 = .ok (.iload 5, 2) := by decide +kernel
theorem zd249_40 : decode zxm249.2.1 40 = .ok (.iaload, 1) := by decide +kernel
theorem zd249_41 : decode zxm249.2.1 41 = .ok (.ldc 202, 2) := by decide +kernel
theorem zd249_43 : decode zxm249.2.1 43 = .ok (.irem, 1) := by decide +kernel
theorem zd249_44 : decode zxm249.2.1 44 = .ok (.istore 7, 2) := by decide +kernel
theorem zd249_46 : decode zxm249.2.1 46 = .ok (.iload 5, 2) := by decide +kernel
theorem zd249_48 : decode zxm249.2.1 48 = .ok (.iconst 1, 1) := by decide +kernel
theorem zd249_49 : decode zxm249.2.1 49 = .ok (.iadd, 1) := by decide +kernel
theorem zd249_50 : decode zxm249.2.1 50 = .ok (.istore 5, 2) := by decide +kernel
theorem zd249_52 : decode zxm249.2.1 52 = .ok (.iload 6, 2) := by decide +kernel
theorem zd249_54 : decode zxm249.2.1 54 = .ok (.ifCond .eq 9, 3) := by decide +kernel
theorem zd249_57 : decode zxm249.2.1 57 = .ok (.iload 6, 2) := by decide +kernel
theorem zd249_59 : decode zxm249.2.1 59 = .ok (.iconst 1, 1) := by decide +kernel
theorem zd249_60 : decode zxm249.2.1 60 = .ok (.if_icmp .ne 33, 3) := by decide +kernel
theorem zd249_63 : decode zxm249.2.1 63 = .ok (.aload_n 0, 1) := by decide +kernel
theorem zd249_64 : decode zxm249.2.1 64 = .ok (.getfield 56, 3) := by decide +kernel
theorem zd249_67 : decode zxm249.2.1 67 = .ok (.iload_n 3, 1) := by decide +kernel
theorem zd249_68 : decode zxm249.2.1 68 = .ok (.iload 6, 2) := by decide +kernel
theorem zd249_70 : decode zxm249.2.1 70 = .ok (.ifCond .ne 8, 3) := by decide +kernel
theorem zd249_73 : decode zxm249.2.1 73 = .ok (.iload 7, 2) := by decide +kernel
theorem zd249_75 : decode zxm249.2.1 75 = .ok (.goto 10, 3) := by decide +kernel
theorem zd249_78 : decode zxm249.2.1 78 = .ok (.aload_n 0, 1) := by decide +kernel
theorem zd249_79 : decode zxm249.2.1 79 = .ok (.getfield 59, 3) := by decide +kernel
theorem zd249_82 : decode zxm249.2.1 82 = .ok (.iload 7, 2) := by decide +kernel
theorem zd249_84 : decode zxm249.2.1 84 = .ok (.iaload, 1) := by decide +kernel
theorem zd249_85 : decode zxm249.2.1 85 = .ok (.iastore, 1) := by decide +kernel
theorem zd249_86 : decode zxm249.2.1 86 = .ok (.iload_n 3, 1) := by decide +kernel
theorem zd249_87 : decode zxm249.2.1 87 = .ok (.iconst 1, 1) := by decide +kernel
theorem zd249_88 : decode zxm249.2.1 88 = .ok (.iadd, 1) := by decide +kernel
theorem zd249_89 : decode zxm249.2.1 89 = .ok (.istore_n 3, 1) := by decide +kernel
theorem zd249_90 : decode zxm249.2.1 90 = .ok (.goto 140, 3) := by decide +kernel
theorem zd249_93 : decode zxm249.2.1 93 = .ok (.iload 6, 2) := by decide +kernel
theorem zd249_95 : decode zxm249.2.1 95 = .ok (.bipush 10, 2) := by decide +kernel
theorem zd249_97 : decode zxm249.2.1 97 = .ok (.if_icmp .ne 24, 3) := by decide +kernel
theorem zd249_100 : decode zxm249.2.1 100 = .ok (.aload_n 0, 1) := by decide +kernel
theorem zd249_101 : decode zxm249.2.1 101 = .ok (.getfield 56, 3) := by decide +kernel
theorem zd249_104 : decode zxm249.2.1 104 = .ok (.iload_n 3, 1) := by decide +kernel
theorem zd249_105 : decode zxm249.2.1 105 = .ok (.iconst 1, 1) := by decide +kernel
theorem zd249_106 : decode zxm249.2.1 106 = .ok (.isub, 1) := by decide +kernel
theorem zd249_107 : decode zxm249.2.1 107 = .ok (.iconst 1, 1) := by decide +kernel
theorem zd249_108 : decode zxm249.2.1 108 = .ok (.aload_n 0, 1) := by decide +kernel
theorem zd249_109 : decode zxm249.2.1 109 = .ok (.getfield 56, 3) := by decide +kernel
theorem zd249_112 : decode zxm249.2.1 112 = .ok (.iload_n 3, 1) := by decide +kernel
theorem zd249_113 : decode zxm249.2.1 113 = .ok (.iconst 1, 1) := by decide +kernel
theorem zd249_114 : decode zxm249.2.1 114 = .ok (.isub, 1) := by decide +kernel
theorem zd249_115 : decode zxm249.2.1 115 = .ok (.iaload, 1) := by decide +kernel
theorem zd249_116 : decode zxm249.2.1 116 = .ok (.isub, 1) := by decide +kernel
theorem zd249_117 : decode zxm249.2.1 117 = .ok (.iastore, 1) := by decide +kernel
theorem zd249_118 : decode zxm249.2.1 118 = .ok (.goto 112, 3) := by decide +kernel
theorem zd249_121 : decode zxm249.2.1 121 = .ok (.iload 6, 2) := by decide +kernel
theorem zd249_123 : decode zxm249.2.1 123 = .ok (.bipush 11, 2) := by decide +kernel
theorem zd249_125 : decode zxm249.2.1 125 = .ok (.if_icmp .eq 10, 3) := by decide +kernel
theorem zd249_128 : decode zxm249.2.1 128 = .ok (.iload 6, 2) := by decide +kernel
theorem zd249_130 : decode zxm249.2.1 130 = .ok (.bipush 12, 2) := by decide +kernel
theorem zd249_132 : decode zxm249.2.1 132 = .ok (.if_icmp .ne 43, 3) := by decide +kernel
theorem zd249_135 : decode zxm249.2.1 135 = .ok (.aload_n 0, 1) := by decide +kernel
theorem zd249_136 : decode zxm249.2.1 136 = .ok (.getfield 56, 3) := by decide +kernel
theorem zd249_139 : decode zxm249.2.1 139 = .ok (.iload_n 3, 1) := by decide +kernel
theorem zd249_140 : decode zxm249.2.1 140 = .ok (.iconst 1, 1) := by decide +kernel
theorem zd249_141 : decode zxm249.2.1 141 = .ok (.isub, 1) := by decide +kernel
theorem zd249_142 : decode zxm249.2.1 142 = .ok (.iaload, 1) := by decide +kernel
theorem zd249_143 : decode zxm249.2.1 143 = .ok (.iload 6, 2) := by decide +kernel
theorem zd249_145 : decode zxm249.2.1 145 = .ok (.bipush 12, 2) := by decide +kernel
theorem zd249_147 : decode zxm249.2.1 147 = .ok (.if_icmp .ne 7, 3) := by decide +kernel
theorem zd249_150 : decode zxm249.2.1 150 = .ok (.iconst 1, 1) := by decide +kernel
theorem zd249_151 : decode zxm249.2.1 151 = .ok (.goto 4, 3) := by decide +kernel
theorem zd249_154 : decode zxm249.2.1 154 = .ok (.iconst 0, 1) := by decide +kernel
theorem zd249_155 : decode zxm249.2.1 155 = .ok (.if_icmp .ne 13, 3) := by decide +kernel
theorem zd249_158 : decode zxm249.2.1 158 = .ok (.iload 4, 2) := by decide +kernel
theorem zd249_160 : decode zxm249.2.1 160 = .ok (.iload 7, 2) := by decide +kernel
theorem zd249_162 : decode zxm249.2.1 162 = .ok (.iadd, 1) := by decide +kernel
theorem zd249_163 : decode zxm249.2.1 163 = .ok (.istore 5, 2) := by decide +kernel
theorem zd249_165 : decode zxm249.2.1 165 = .ok (.goto 65, 3) := by decide +kernel
theorem zd249_168 : decode zxm249.2.1 168 = .ok (.iload_n 3, 1) := by decide +kernel
theorem zd249_169 : decode zxm249.2.1 169 = .ok (.iconst 1, 1) := by decide +kernel
theorem zd249_170 : decode zxm249.2.1 170 = .ok (.isub, 1) := by decide +kernel
theorem zd249_171 : decode zxm249.2.1 171 = .ok (.istore_n 3, 1) := by decide +kernel
theorem zd249_172 : decode zxm249.2.1 172 = .ok (.goto 58, 3) := by decide +kernel
theorem zd249_175 : decode zxm249.2.1 175 = .ok (.iload_n 3, 1) := by decide +kernel
theorem zd249_176 : decode zxm249.2.1 176 = .ok (.iconst 1, 1) := by decide +kernel
theorem zd249_177 : decode zxm249.2.1 177 = .ok (.isub, 1) := by decide +kernel
theorem zd249_178 : decode zxm249.2.1 178 = .ok (.istore_n 3, 1) := by decide +kernel
theorem zd249_179 : decode zxm249.2.1 179 = .ok (.iload 6, 2) := by decide +kernel
theorem zd249_181 : decode zxm249.2.1 181 = .ok (.iconst 5, 1) := by decide +kernel
theorem zd249_182 : decode zxm249.2.1 182 = .ok (.if_icmp .eq 10, 3) := by decide +kernel
theorem zd249_185 : decode zxm249.2.1 185 = .ok (.iload 6, 2) := by decide +kernel
theorem zd249_187 : decode zxm249.2.1 187 = .ok (.bipush 6, 2) := by decide +kernel
theorem zd249_189 : decode zxm249.2.1 189 = .ok (.if_icmp .ne 14, 3) := by decide +kernel
theorem zd249_192 : decode zxm249.2.1 192 = .ok (.aload_n 0, 1) := by decide +kernel
theorem zd249_193 : decode zxm249.2.1 193 = .ok (.getfield 56, 3) := by decide +kernel
theorem zd249_196 : decode zxm249.2.1 196 = .ok (.iload_n 3, 1) := by decide +kernel
theorem zd249_197 : decode zxm249.2.1 197 = .ok (.iaload, 1) := by decide +kernel
theorem zd249_198 : decode zxm249.2.1 198 = .ok (.ifCond .ne 5, 3) := by decide +kernel
theorem zd249_201 : decode zxm249.2.1 201 = .ok (.iconst 0, 1) := by decide +kernel
theorem zd249_202 : decode zxm249.2.1 202 = .ok (.ireturn, 1) := by decide +kernel
theorem zd249_203 : decode zxm249.2.1 203 = .ok (.aload_n 0, 1) := by decide +kernel
theorem zd249_204 : decode zxm249.2.1 204 = .ok (.getfield 56, 3) := by decide +kernel
theorem zd249_207 : decode zxm249.2.1 207 = .ok (.iload_n 3, 1) := by decide +kernel
theorem zd249_208 : decode zxm249.2.1 208 = .ok (.iconst 1, 1) := by decide +kernel
theorem zd249_209 : decode zxm249.2.1 209 = .ok (.isub, 1) := by decide +kernel
theorem zd249_210 : decode zxm249.2.1 210 = .ok (.iload 6, 2) := by decide +kernel
theorem zd249_212 : decode zxm249.2.1 212 = .ok (.aload_n 0, 1) := by decide +kernel
theorem zd249_213 : decode zxm249.2.1 213 = .ok (.getfield 56, 3) := by decide +kernel
theorem zd249_216 : decode zxm249.2.1 216 = .ok (.iload_n 3, 1) := by decide +kernel
theorem zd249_217 : decode zxm249.2.1 217 = .ok (.iconst 1, 1) := by decide +kernel
theorem zd249_218 : decode zxm249.2.1 218 = .ok (.isub, 1) := by decide +kernel
theorem zd249_219 : decode zxm249.2.1 219 = .ok (.iaload, 1) := by decide +kernel
theorem zd249_220 : decode zxm249.2.1 220 = .ok (.aload_n 0, 1) := by decide +kernel
theorem zd249_221 : decode zxm249.2.1 221 = .ok (.getfield 56, 3) := by decide +kernel
theorem zd249_224 : decode zxm249.2.1 224 = .ok (.iload_n 3, 1) := by decide +kernel
theorem zd249_225 : decode zxm249.2.1 225 = .ok (.iaload, 1) := by decide +kernel
theorem zd249_226 : decode zxm249.2.1 226 = .ok (.invokestatic 271, 3) := by decide +kernel
theorem zd249_229 : decode zxm249.2.1 229 = .ok (.iastore, 1) := by decide +kernel
theorem zd249_230 : decode zxm249.2.1 230 = .ok (.goto (-214), 3) := by decide +kernel
theorem zd249_233 : decode zxm249.2.1 233 = .ok (.aload_n 0, 1) := by decide +kernel
theorem zd249_234 : decode zxm249.2.1 234 = .ok (.getfield 56, 3) := by decide +kernel
theorem zd249_237 : decode zxm249.2.1 237 = .ok (.iconst 0, 1) := by decide +kernel
theorem zd249_238 : decode zxm249.2.1 238 = .ok (.iaload, 1) := by decide +kernel
theorem zd249_239 : decode zxm249.2.1 239 = .ok (.ireturn, 1) := by decide +kernel
theorem zt_M_comesTo {x1 : Int} {x2 : Int} {g0 : (Int → Int)} {g1 : (Int → Int)} {g2 : (Int → Int)} {o : Int × (Int → Int)} (h : zf_M_comesTo x1 x2 g0 g1 g2 = some o) : zv_Fn z_TB z_cl z_KX zy_M_comesTo zxm249 (1, 60) [.inr 0, .inl x1, .inl x2] [] [g0, g1, g2] (some o.1) [] [g0, o.2, g2] := zv_meth (K := (z_KF13, z_KC13, z_KL13, z_KT13, [], [], [], none)) (FT := z_FT) (MT := z_MT) (n := 3) zxp249 (z_ks13 _ (fun _ h => List.mem_cons_of_mem _ h) _ _ _ _ (fun j r h _ => by cases h)) (fun _ _ => zs_KX_p) zyw_M_comesTo (fun va F G h => by obtain ⟨rfl, _⟩ := h; rfl) (fun va F G h => by obtain ⟨rfl, _⟩ := h; rfl) rfl fun good va F G hB hret hvret hP => by
  obtain ⟨rfl, rfl, rfl⟩ := hP
  have l0 : ∀ (n : Nat) (x2 : Int) (x3 : Int) (x4 : Int) (x5 : Int) (g1 : (Int → Int)) (q : (((Int → Int)) ⊕ (Int × (Int → Int)))), zf_M_comesTo_l0 x2 x4 g0 g2 n x3 x5 g1 = some q → (Sum.elim (fun e : (Int → Int) => good 233 [.inr 0, .inr 1000, .inr 1000, .inr 1000, .inr 1000, .inr 1000, .inr 1000, .inr 1000] [] [] [g0, e, g2]) (fun w : Int × (Int → Int) => w = o) q) → good 16 [.inr 0, .inr 1000, .inl x2, .inl x3, .inl x4, .inl x5, .inr 1000, .inr 1000] [] [] [g0, g1, g2] := by
    intro n
    induction n with
    | zero => intro x2 x3 x4 x5 g1 q h; exact absurd (show none = some q from h) (fun h => by cases h)
    | succ n ih =>
      intro x2 x3 x4 x5 g1 q h hK
      replace h : zf_M_comesTo_l0_b x2 x4 g0 g2 (zf_M_comesTo_l0 x2 x4 g0 g2 n) x3 x5 g1 = some q := h
      unfold zf_M_comesTo_l0_b at h
      refine zv_ild hB zd249_16 rfl rfl ?_
      refine zv_ild hB zd249_18 rfl rfl ?_
      refine zv_cge hB zd249_19 rfl (fun hc1 => ?_) (fun hc1 => ?_)
      · rw [if_neg (Int.not_lt.mpr hc1)] at h
        have hq := Option.some.inj h
        subst hq
        refine zv_wk hB (L' := [.inr 0, .inr 1000, .inr 1000, .inr 1000, .inr 1000, .inr 1000, .inr 1000, .inr 1000]) (F' := []) ⟨fun _ => rfl, fun (h : zv_is (.inr 1000)) => (Nat.lt_irrefl 1000 h).elim, fun (h : zv_is (.inr 1000)) => (Nat.lt_irrefl 1000 h).elim, fun (h : zv_is (.inr 1000)) => (Nat.lt_irrefl 1000 h).elim, fun (h : zv_is (.inr 1000)) => (Nat.lt_irrefl 1000 h).elim, fun (h : zv_is (.inr 1000)) => (Nat.lt_irrefl 1000 h).elim, fun (h : zv_is (.inr 1000)) => (Nat.lt_irrefl 1000 h).elim, fun (h : zv_is (.inr 1000)) => (Nat.lt_irrefl 1000 h).elim, trivial⟩ trivial ?_
        exact hK
      · rw [if_pos hc1] at h
        refine zv_ald hB zd249_22 rfl rfl rfl ?_
        refine zv_getr hB zd249_23 rfl ?_
        refine zv_ild hB zd249_26 rfl rfl ?_
        obtain ⟨c2, h⟩ := zi_if h
        refine zv_iald hB zd249_28 rfl rfl (zi_ix_ok c2).1 (zi_ix_ok c2).2 (fun _ _ => ?_)
        refine zv_con (n := 1048576) hB zd249_29 (by decide +kernel) ?_
        refine zv_divw hB zd249_31 (by decide) ?_
        refine zv_ist hB zd249_32 rfl rfl rfl ?_
        refine zv_ald hB zd249_34 rfl rfl rfl ?_
        refine zv_getr hB zd249_35 rfl ?_
        refine zv_ild hB zd249_38 rfl rfl ?_
        refine zv_iald hB zd249_40 rfl rfl (zi_ix_ok c2).1 (zi_ix_ok c2).2 (fun _ _ => ?_)
        refine zv_con (n := 1048576) hB zd249_41 (by decide +kernel) ?_
        refine zv_remw hB zd249_43 (by decide) ?_
        refine zv_ist hB zd249_44 rfl rfl rfl ?_
        refine zv_ild hB zd249_46 rfl rfl ?_
        refine zv_con hB zd249_48 rfl ?_
        refine zv_addw hB zd249_49 ?_
        refine zv_ist hB zd249_50 rfl rfl rfl ?_
        refine zv_ild hB zd249_52 rfl rfl ?_
        refine zv_zeq hB zd249_54 rfl (fun hc3 => ?_) (fun hc3 => ?_)
        · rw [if_pos hc3] at h
          refine zv_ald hB zd249_63 rfl rfl rfl ?_
          refine zv_getr hB zd249_64 rfl ?_
          refine zv_ild hB zd249_67 rfl rfl ?_
          refine zv_ild hB zd249_68 rfl rfl ?_
          refine zv_zne hB zd249_70 rfl (fun hc => absurd hc (by omega)) (fun _ => ?_)
          refine zv_ild hB zd249_73 rfl rfl ?_
          refine zv_goto hB zd249_75 rfl ?_
          obtain ⟨c5, h⟩ := zi_if h
          refine zv_iast hB zd249_85 rfl rfl (zi_ix_ok c5).1 (zi_ix_ok c5).2 ?_
          refine zv_ild hB zd249_86 rfl rfl ?_
          refine zv_con hB zd249_87 rfl ?_
          refine zv_addw hB zd249_88 ?_
          refine zv_ist hB zd249_89 rfl rfl rfl ?_
          refine zv_goto hB zd249_90 rfl ?_
          refine zv_goto hB zd249_230 rfl ?_
          refine zv_wk hB (L' := [.inr 0, .inr 1000, .inl x2, .inl (zi_w (x3 + 1)), .inl x4, .inl (zi_w (x5 + 1)), .inr 1000, .inr 1000]) (F' := []) ⟨fun _ => rfl, fun (h : zv_is (.inr 1000)) => (Nat.lt_irrefl 1000 h).elim, fun _ => rfl, fun _ => rfl, fun _ => rfl, fun _ => rfl, fun (h : zv_is (.inr 1000)) => (Nat.lt_irrefl 1000 h).elim, fun (h : zv_is (.inr 1000)) => (Nat.lt_irrefl 1000 h).elim, trivial⟩ trivial ?_
          exact ih _ _ _ _ _ q h hK
        · rw [if_neg hc3] at h
          refine zv_ild hB zd249_57 rfl rfl ?_
          refine zv_con hB zd249_59 rfl ?_
          refine zv_cne hB zd249_60 rfl (fun hc6 => ?_) (fun hc6 => ?_)
          · rw [if_neg hc6] at h
            refine zv_ild hB zd249_93 rfl rfl ?_
            refine zv_con hB zd249_95 rfl ?_
            refine zv_cne hB zd249_97 rfl (fun hc7 => ?_) (fun hc7 => ?_)
            · rw [if_neg hc7] at h
              refine zv_ild hB zd249_121 rfl rfl ?_
              refine zv_con hB zd249_123 rfl ?_
              refine zv_ceq hB zd249_125 rfl (fun hc8 => ?_) (fun hc8 => ?_)
              · rw [if_pos hc8] at h
                refine zv_ald hB zd249_135 rfl rfl rfl ?_
                refine zv_getr hB zd249_136 rfl ?_
                refine zv_ild hB zd249_139 rfl rfl ?_
                refine zv_con hB zd249_140 rfl ?_
                refine zv_subw hB zd249_141 ?_
                obtain ⟨c9, h⟩ := zi_if h
                refine zv_iald hB zd249_142 rfl rfl (zi_ix_ok c9).1 (zi_ix_ok c9).2 (fun _ _ => ?_)
                refine zv_ild hB zd249_143 rfl rfl ?_
                refine zv_con hB zd249_145 rfl ?_
                refine zv_cne hB zd249_147 rfl (fun _ => ?_) (fun hc => absurd hc (by omega))
                refine zv_con hB zd249_154 rfl ?_
                refine zv_cne hB zd249_155 rfl (fun hc11 => ?_) (fun hc11 => ?_)
                · rw [if_neg hc11] at h
                  refine zv_ild hB zd249_168 rfl rfl ?_
                  refine zv_con hB zd249_169 rfl ?_
                  refine zv_subw hB zd249_170 ?_
                  refine zv_ist hB zd249_171 rfl rfl rfl ?_
                  refine zv_goto hB zd249_172 rfl ?_
                  refine zv_goto hB zd249_230 rfl ?_
                  refine zv_wk hB (L' := [.inr 0, .inr 1000, .inl x2, .inl (zi_w (x3 - 1)), .inl x4, .inl (zi_w (x5 + 1)), .inr 1000, .inr 1000]) (F' := []) ⟨fun _ => rfl, fun (h : zv_is (.inr 1000)) => (Nat.lt_irrefl 1000 h).elim, fun _ => rfl, fun _ => rfl, fun _ => rfl, fun _ => rfl, fun (h : zv_is (.inr 1000)) => (Nat.lt_irrefl 1000 h).elim, fun (h : zv_is (.inr 1000)) => (Nat.lt_irrefl 1000 h).elim, trivial⟩ trivial ?_
                  exact ih _ _ _ _ _ q h hK
                · rw [if_pos hc11] at h
                  refine zv_ild hB zd249_158 rfl rfl ?_
                  refine zv_ild hB zd249_160 rfl rfl ?_
                  refine zv_addw hB zd249_162 ?_
                  refine zv_ist hB zd249_163 rfl rfl rfl ?_
                  refine zv_goto hB zd249_165 rfl ?_
                  refine zv_goto hB zd249_230 rfl ?_
                  refine zv_wk hB (L' := [.inr 0, .inr 1000, .inl x2, .inl x3, .inl x4, .inl (zi_w (x4 + (zi_rem (g0 x5) 1048576))), .inr 1000, .inr 1000]) (F' := []) ⟨fun _ => rfl, fun (h : zv_is (.inr 1000)) => (Nat.lt_irrefl 1000 h).elim, fun _ => rfl, fun _ => rfl, fun _ => rfl, fun _ => rfl, fun (h : zv_is (.inr 1000)) => (Nat.lt_irrefl 1000 h).elim, fun (h : zv_is (.inr 1000)) => (Nat.lt_irrefl 1000 h).elim, trivial⟩ trivial ?_
                  exact ih _ _ _ _ _ q h hK
              · rw [if_neg hc8] at h
                refine zv_ild hB zd249_128 rfl rfl ?_
                refine zv_con hB zd249_130 rfl ?_
                refine zv_cne hB zd249_132 rfl (fun hc12 => ?_) (fun hc12 => ?_)
                · rw [if_neg hc12] at h
                  refine zv_ild hB zd249_175 rfl rfl ?_
                  refine zv_con hB zd249_176 rfl ?_
                  refine zv_subw hB zd249_177 ?_
                  refine zv_ist hB zd249_178 rfl rfl rfl ?_
                  refine zv_ild hB zd249_179 rfl rfl ?_
                  refine zv_con hB zd249_181 rfl ?_
                  refine zv_ceq hB zd249_182 rfl (fun hc13 => ?_) (fun hc13 => ?_)
                  · rw [if_pos hc13] at h
                    refine zv_ald hB zd249_192 rfl rfl rfl ?_
                    refine zv_getr hB zd249_193 rfl ?_
                    refine zv_ild hB zd249_196 rfl rfl ?_
                    obtain ⟨c14, h⟩ := zi_if h
                    refine zv_iald hB zd249_197 rfl rfl (zi_ix_ok c14).1 (zi_ix_ok c14).2 (fun _ _ => ?_)
                    refine zv_zne hB zd249_198 rfl (fun hc15 => ?_) (fun hc15 => ?_)
                    · rw [if_neg hc15] at h
                      refine zv_ald hB zd249_203 rfl rfl rfl ?_
                      refine zv_getr hB zd249_204 rfl ?_
                      refine zv_ild hB zd249_207 rfl rfl ?_
                      refine zv_con hB zd249_208 rfl ?_
                      refine zv_subw hB zd249_209 ?_
                      refine zv_ild hB zd249_210 rfl rfl ?_
                      refine zv_ald hB zd249_212 rfl rfl rfl ?_
                      refine zv_getr hB zd249_213 rfl ?_
                      refine zv_ild hB zd249_216 rfl rfl ?_
                      refine zv_con hB zd249_217 rfl ?_
                      refine zv_subw hB zd249_218 ?_
                      obtain ⟨c16, h⟩ := zi_if h
                      refine zv_iald hB zd249_219 rfl rfl (zi_ix_ok c16).1 (zi_ix_ok c16).2 (fun _ _ => ?_)
                      refine zv_ald hB zd249_220 rfl rfl rfl ?_
                      refine zv_getr hB zd249_221 rfl ?_
                      refine zv_ild hB zd249_224 rfl rfl ?_
                      refine zv_iald hB zd249_225 rfl rfl (zi_ix_ok c14).1 (zi_ix_ok c14).2 (fun _ _ => ?_)
                      obtain ⟨r17, hr17, h⟩ := zi_bind h
                      refine zv_cs hB (zv_emq (va2 := [.inl (zi_div (g0 x5) 1048576), .inl (g1 (zi_w ((zi_w (x3 - 1)) - 1))), .inl (g1 (zi_w (x3 - 1)))]) (F := []) (F' := []) (G := [g0, g1, g2]) (G' := [g0, g1, g2]) (ρ := []) (φ := []) (ψ := []) [] [none, none, none] zyw_M_reckon zyw_M_comesTo zye_M_comesTo (by decide +kernel) (zt_M_reckon hr17) trivial trivial rfl rfl rfl rfl rfl rfl rfl) zd249_226 zxt250 rfl (by decide) (by decide) rfl ?_
                      refine zv_iast hB zd249_229 rfl rfl (zi_ix_ok c16).1 (zi_ix_ok c16).2 ?_
                      refine zv_goto hB zd249_230 rfl ?_
                      refine zv_wk hB (L' := [.inr 0, .inr 1000, .inl x2, .inl (zi_w (x3 - 1)), .inl x4, .inl (zi_w (x5 + 1)), .inr 1000, .inr 1000]) (F' := []) ⟨fun _ => rfl, fun (h : zv_is (.inr 1000)) => (Nat.lt_irrefl 1000 h).elim, fun _ => rfl, fun _ => rfl, fun _ => rfl, fun _ => rfl, fun (h : zv_is (.inr 1000)) => (Nat.lt_irrefl 1000 h).elim, fun (h : zv_is (.inr 1000)) => (Nat.lt_irrefl 1000 h).elim, trivial⟩ trivial ?_
                      exact ih _ _ _ _ _ q h hK
                    · rw [if_pos hc15] at h
                      refine zv_con hB zd249_201 rfl ?_
                      have hw : (0, g1) = o := zi_rk (Option.some.inj h) hK
                      subst hw
                      exact hret _ _ _ _ _ zd249_202 (by trivial) ⟨rfl, rfl, rfl⟩
                  · rw [if_neg hc13] at h
                    refine zv_ild hB zd249_185 rfl rfl ?_
                    refine zv_con hB zd249_187 rfl ?_
                    refine zv_cne hB zd249_189 rfl (fun hc18 => ?_) (fun hc18 => ?_)
                    · rw [if_neg hc18] at h
                      refine zv_ald hB zd249_203 rfl rfl rfl ?_
                      refine zv_getr hB zd249_204 rfl ?_
                      refine zv_ild hB zd249_207 rfl rfl ?_
                      refine zv_con hB zd249_208 rfl ?_
                      refine zv_subw hB zd249_209 ?_
                      refine zv_ild hB zd249_210 rfl rfl ?_
                      refine zv_ald hB zd249_212 rfl rfl rfl ?_
                      refine zv_getr hB zd249_213 rfl ?_
                      refine zv_ild hB zd249_216 rfl rfl ?_
                      refine zv_con hB zd249_217 rfl ?_
                      refine zv_subw hB zd249_218 ?_
                      obtain ⟨c19, h⟩ := zi_if h
                      refine zv_iald hB zd249_219 rfl rfl (zi_ix_ok c19).1 (zi_ix_ok c19).2 (fun _ _ => ?_)
                      refine zv_ald hB zd249_220 rfl rfl rfl ?_
                      refine zv_getr hB zd249_221 rfl ?_
                      refine zv_ild hB zd249_224 rfl rfl ?_
                      obtain ⟨c20, h⟩ := zi_if h
                      refine zv_iald hB zd249_225 rfl rfl (zi_ix_ok c20).1 (zi_ix_ok c20).2 (fun _ _ => ?_)
                      obtain ⟨r21, hr21, h⟩ := zi_bind h
                      refine zv_cs hB (zv_emq (va2 := [.inl (zi_div (g0 x5) 1048576), .inl (g1 (zi_w ((zi_w (x3 - 1)) - 1))), .inl (g1 (zi_w (x3 - 1)))]) (F := []) (F' := []) (G := [g0, g1, g2]) (G' := [g0, g1, g2]) (ρ := []) (φ := []) (ψ := []) [] [none, none, none] zyw_M_reckon zyw_M_comesTo zye_M_comesTo (by decide +kernel) (zt_M_reckon hr21) trivial trivial rfl rfl rfl rfl rfl rfl rfl) zd249_226 zxt250 rfl (by decide) (by decide) rfl ?_
                      refine zv_iast hB zd249_229 rfl rfl (zi_ix_ok c19).1 (zi_ix_ok c19).2 ?_
                      refine zv_goto hB zd249_230 rfl ?_
                      refine zv_wk hB (L' := [.inr 0, .inr 1000, .inl x2, .inl (zi_w (x3 - 1)), .inl x4, .inl (zi_w (x5 + 1)), .inr 1000, .inr 1000]) (F' := []) ⟨fun _ => rfl, fun (h : zv_is (.inr 1000)) => (Nat.lt_irrefl 1000 h).elim, fun _ => rfl, fun _ => rfl, fun _ => rfl, fun _ => rfl, fun (h : zv_is (.inr 1000)) => (Nat.lt_irrefl 1000 h).elim, fun (h : zv_is (.inr 1000)) => (Nat.lt_irrefl 1000 h).elim, trivial⟩ trivial ?_
                      exact ih _ _ _ _ _ q h hK
                    · rw [if_pos hc18] at h
                      refine zv_ald hB zd249_192 rfl rfl rfl ?_
                      refine zv_getr hB zd249_193 rfl ?_
                      refine zv_ild hB zd249_196 rfl rfl ?_
                      obtain ⟨c22, h⟩ := zi_if h
                      refine zv_iald hB zd249_197 rfl rfl (zi_ix_ok c22).1 (zi_ix_ok c22).2 (fun _ _ => ?_)
                      refine zv_zne hB zd249_198 rfl (fun hc23 => ?_) (fun hc23 => ?_)
                      · rw [if_neg hc23] at h
                        refine zv_ald hB zd249_203 rfl rfl rfl ?_
                        refine zv_getr hB zd249_204 rfl ?_
                        refine zv_ild hB zd249_207 rfl rfl ?_
                        refine zv_con hB zd249_208 rfl ?_
                        refine zv_subw hB zd249_209 ?_
                        refine zv_ild hB zd249_210 rfl rfl ?_
                        refine zv_ald hB zd249_212 rfl rfl rfl ?_
                        refine zv_getr hB zd249_213 rfl ?_
                        refine zv_ild hB zd249_216 rfl rfl ?_
                        refine zv_con hB zd249_217 rfl ?_
                        refine zv_subw hB zd249_218 ?_
                        obtain ⟨c24, h⟩ := zi_if h
                        refine zv_iald hB zd249_219 rfl rfl (zi_ix_ok c24).1 (zi_ix_ok c24).2 (fun _ _ => ?_)
                        refine zv_ald hB zd249_220 rfl rfl rfl ?_
                        refine zv_getr hB zd249_221 rfl ?_
                        refine zv_ild hB zd249_224 rfl rfl ?_
                        refine zv_iald hB zd249_225 rfl rfl (zi_ix_ok c22).1 (zi_ix_ok c22).2 (fun _ _ => ?_)
                        obtain ⟨r25, hr25, h⟩ := zi_bind h
                        refine zv_cs hB (zv_emq (va2 := [.inl (zi_div (g0 x5) 1048576), .inl (g1 (zi_w ((zi_w (x3 - 1)) - 1))), .inl (g1 (zi_w (x3 - 1)))]) (F := []) (F' := []) (G := [g0, g1, g2]) (G' := [g0, g1, g2]) (ρ := []) (φ := []) (ψ := []) [] [none, none, none] zyw_M_reckon zyw_M_comesTo zye_M_comesTo (by decide +kernel) (zt_M_reckon hr25) trivial trivial rfl rfl rfl rfl rfl rfl rfl) zd249_226 zxt250 rfl (by decide) (by decide) rfl ?_
                        refine zv_iast hB zd249_229 rfl rfl (zi_ix_ok c24).1 (zi_ix_ok c24).2 ?_
                        refine zv_goto hB zd249_230 rfl ?_
                        refine zv_wk hB (L' := [.inr 0, .inr 1000, .inl x2, .inl (zi_w (x3 - 1)), .inl x4, .inl (zi_w (x5 + 1)), .inr 1000, .inr 1000]) (F' := []) ⟨fun _ => rfl, fun (h : zv_is (.inr 1000)) => (Nat.lt_irrefl 1000 h).elim, fun _ => rfl, fun _ => rfl, fun _ => rfl, fun _ => rfl, fun (h : zv_is (.inr 1000)) => (Nat.lt_irrefl 1000 h).elim, fun (h : zv_is (.inr 1000)) => (Nat.lt_irrefl 1000 h).elim, trivial⟩ trivial ?_
                        exact ih _ _ _ _ _ q h hK
                      · rw [if_pos hc23] at h
                        refine zv_con hB zd249_201 rfl ?_
                        have hw : (0, g1) = o := zi_rk (Option.some.inj h) hK
                        subst hw
                        exact hret _ _ _ _ _ zd249_202 (by trivial) ⟨rfl, rfl, rfl⟩
                · rw [if_pos hc12] at h
                  refine zv_ald hB zd249_135 rfl rfl rfl ?_
                  refine zv_getr hB zd249_136 rfl ?_
                  refine zv_ild hB zd249_139 rfl rfl ?_
                  refine zv_con hB zd249_140 rfl ?_
                  refine zv_subw hB zd249_141 ?_
                  obtain ⟨c26, h⟩ := zi_if h
                  refine zv_iald hB zd249_142 rfl rfl (zi_ix_ok c26).1 (zi_ix_ok c26).2 (fun _ _ => ?_)
                  refine zv_ild hB zd249_143 rfl rfl ?_
                  refine zv_con hB zd249_145 rfl ?_
                  refine zv_cne hB zd249_147 rfl (fun hc => absurd hc (by omega)) (fun _ => ?_)
                  refine zv_con hB zd249_150 rfl ?_
                  refine zv_goto hB zd249_151 rfl ?_
                  refine zv_cne hB zd249_155 rfl (fun hc28 => ?_) (fun hc28 => ?_)
                  · rw [if_neg hc28] at h
                    refine zv_ild hB zd249_168 rfl rfl ?_
                    refine zv_con hB zd249_169 rfl ?_
                    refine zv_subw hB zd249_170 ?_
                    refine zv_ist hB zd249_171 rfl rfl rfl ?_
                    refine zv_goto hB zd249_172 rfl ?_
                    refine zv_goto hB zd249_230 rfl ?_
                    refine zv_wk hB (L' := [.inr 0, .inr 1000, .inl x2, .inl (zi_w (x3 - 1)), .inl x4, .inl (zi_w (x5 + 1)), .inr 1000, .inr 1000]) (F' := []) ⟨fun _ => rfl, fun (h : zv_is (.inr 1000)) => (Nat.lt_irrefl 1000 h).elim, fun _ => rfl, fun _ => rfl, fun _ => rfl, fun _ => rfl, fun (h : zv_is (.inr 1000)) => (Nat.lt_irrefl 1000 h).elim, fun (h : zv_is (.inr 1000)) => (Nat.lt_irrefl 1000 h).elim, trivial⟩ trivial ?_
                    exact ih _ _ _ _ _ q h hK
                  · rw [if_pos hc28] at h
                    refine zv_ild hB zd249_158 rfl rfl ?_
                    refine zv_ild hB zd249_160 rfl rfl ?_
                    refine zv_addw hB zd249_162 ?_
                    refine zv_ist hB zd249_163 rfl rfl rfl ?_
                    refine zv_goto hB zd249_165 rfl ?_
                    refine zv_goto hB zd249_230 rfl ?_
                    refine zv_wk hB (L' := [.inr 0, .inr 1000, .inl x2, .inl x3, .inl x4, .inl (zi_w (x4 + (zi_rem (g0 x5) 1048576))), .inr 1000, .inr 1000]) (F' := []) ⟨fun _ => rfl, fun (h : zv_is (.inr 1000)) => (Nat.lt_irrefl 1000 h).elim, fun _ => rfl, fun _ => rfl, fun _ => rfl, fun _ => rfl, fun (h : zv_is (.inr 1000)) => (Nat.lt_irrefl 1000 h).elim, fun (h : zv_is (.inr 1000)) => (Nat.lt_irrefl 1000 h).elim, trivial⟩ trivial ?_
                    exact ih _ _ _ _ _ q h hK
            · rw [if_pos hc7] at h
              refine zv_ald hB zd249_100 rfl rfl rfl ?_
              refine zv_getr hB zd249_101 rfl ?_
              refine zv_ild hB zd249_104 rfl rfl ?_
              refine zv_con hB zd249_105 rfl ?_
              refine zv_subw hB zd249_106 ?_
              refine zv_con hB zd249_107 rfl ?_
              refine zv_ald hB zd249_108 rfl rfl rfl ?_
              refine zv_getr hB zd249_109 rfl ?_
              refine zv_ild hB zd249_112 rfl rfl ?_
              refine zv_con hB zd249_113 rfl ?_
              refine zv_subw hB zd249_114 ?_
              obtain ⟨c29, h⟩ := zi_if h
              refine zv_iald hB zd249_115 rfl rfl (zi_ix_ok c29).1 (zi_ix_ok c29).2 (fun _ _ => ?_)
              refine zv_subw hB zd249_116 ?_
              refine zv_iast hB zd249_117 rfl rfl (zi_ix_ok c29).1 (zi_ix_ok c29).2 ?_
              refine zv_goto hB zd249_118 rfl ?_
              refine zv_goto hB zd249_230 rfl ?_
              refine zv_wk hB (L' := [.inr 0, .inr 1000, .inl x2, .inl x3, .inl x4, .inl (zi_w (x5 + 1)), .inr 1000, .inr 1000]) (F' := []) ⟨fun _ => rfl, fun (h : zv_is (.inr 1000)) => (Nat.lt_irrefl 1000 h).elim, fun _ => rfl, fun _ => rfl, fun _ => rfl, fun _ => rfl, fun (h : zv_is (.inr 1000)) => (Nat.lt_irrefl 1000 h).elim, fun (h : zv_is (.inr 1000)) => (Nat.lt_irrefl 1000 h).elim, trivial⟩ trivial ?_
              exact ih _ _ _ _ _ q h hK
          · rw [if_pos hc6] at h
            refine zv_ald hB zd249_63 rfl rfl rfl ?_
            refine zv_getr hB zd249_64 rfl ?_
            refine zv_ild hB zd249_67 rfl rfl ?_
            refine zv_ild hB zd249_68 rfl rfl ?_
            refine zv_zne hB zd249_70 rfl (fun _ => ?_) (fun hc => absurd hc (by omega))
            refine zv_ald hB zd249_78 rfl rfl rfl ?_
            refine zv_getr hB zd249_79 rfl ?_
            refine zv_ild hB zd249_82 rfl rfl ?_
            obtain ⟨c31, h⟩ := zi_if h
            refine zv_iald hB zd249_84 rfl rfl (zi_ix_ok c31).1 (zi_ix_ok c31).2 (fun _ _ => ?_)
            obtain ⟨c32, h⟩ := zi_if h
            refine zv_iast hB zd249_85 rfl rfl (zi_ix_ok c32).1 (zi_ix_ok c32).2 ?_
            refine zv_ild hB zd249_86 rfl rfl ?_
            refine zv_con hB zd249_87 rfl ?_
            refine zv_addw hB zd249_88 ?_
            refine zv_ist hB zd249_89 rfl rfl rfl ?_
            refine zv_goto hB zd249_90 rfl ?_
            refine zv_goto hB zd249_230 rfl ?_
            refine zv_wk hB (L' := [.inr 0, .inr 1000, .inl x2, .inl (zi_w (x3 + 1)), .inl x4, .inl (zi_w (x5 + 1)), .inr 1000, .inr 1000]) (F' := []) ⟨fun _ => rfl, fun (h : zv_is (.inr 1000)) => (Nat.lt_irrefl 1000 h).elim, fun _ => rfl, fun _ => rfl, fun _ => rfl, fun _ => rfl, fun (h : zv_is (.inr 1000)) => (Nat.lt_irrefl 1000 h).elim, fun (h : zv_is (.inr 1000)) => (Nat.lt_irrefl 1000 h).elim, trivial⟩ trivial ?_
            exact ih _ _ _ _ _ q h hK
  unfold zf_M_comesTo at h
  refine zv_con hB zd249_0 rfl ?_
  refine zv_ist hB zd249_1 rfl rfl rfl ?_
  refine zv_con hB zd249_2 rfl ?_
  refine zv_ild hB zd249_5 rfl rfl ?_
  refine zv_con hB zd249_6 rfl ?_
  refine zv_divw hB zd249_9 (by decide) ?_
  refine zv_mulw hB zd249_10 ?_
  refine zv_ist hB zd249_11 rfl rfl rfl ?_
  refine zv_ild hB zd249_13 rfl rfl ?_
  refine zv_ist hB zd249_14 rfl rfl rfl ?_
  obtain ⟨q33, hq33, h⟩ := zi_bind h
  refine zv_wk hB (L' := [.inr 0, .inr 1000, .inl x2, .inl 0, .inl (zi_w (220 * (zi_div x1 220))), .inl x1, .inr 1000, .inr 1000]) (F' := []) ⟨fun _ => rfl, fun (h : zv_is (.inr 1000)) => (Nat.lt_irrefl 1000 h).elim, fun _ => rfl, fun _ => rfl, fun _ => rfl, fun _ => rfl, fun (h : zv_is (.inr 1000)) => (Nat.lt_irrefl 1000 h).elim, fun (h : zv_is (.inr 1000)) => (Nat.lt_irrefl 1000 h).elim, trivial⟩ trivial ?_
  refine l0 _ _ _ _ _ _ q33 hq33 ?_
  rcases q33 with e34 | w35
  · replace h := zi_sl h
    show good 233 [.inr 0, .inr 1000, .inr 1000, .inr 1000, .inr 1000, .inr 1000, .inr 1000, .inr 1000] [] [] [g0, e34, g2]
    refine zv_ald hB zd249_233 rfl rfl rfl ?_
    refine zv_getr hB zd249_234 rfl ?_
    refine zv_con hB zd249_237 rfl ?_
    refine zv_iald hB zd249_238 rfl rfl (by decide) (by decide) (fun _ _ => ?_)
    have hw := Option.some.inj h
    subst hw
    exact hret _ _ _ _ _ zd249_239 (by trivial) ⟨rfl, rfl, rfl⟩
  · exact Option.some.inj h
end
